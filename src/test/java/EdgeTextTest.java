/** Boundary cases of THE TEXT and of promises 8 and 9: a test for each sentence of the document that names one. */
public final class EdgeTextTest {
    private static final Due due = new Due("EdgeTextTest");
    private static final String[] CLAUSES = {"size 4", "path nene", "map", "turn", "up 1", "down 1", "label 12345"};
    private static final String EIGHT_LABELS = "label 12345;".repeat(8);

    public static void main(String[] args) {
        feeding();
        clauses();
        wordsOfClauses();
        faults();
        doing();
        due.end();
    }

    private static void feeding() {
        due.sentence("A sign (0 .. 127) comes behind THE TEXT's: how many it has.", EdgeTextTest::feedFirstAndLastSign);
        due.sentence("how many it has. BAD; FULL.", EdgeTextTest::feedBelow);
        due.sentence("how many it has. BAD; FULL.", EdgeTextTest::feedAbove);
        due.sentence("A set-up is read from THE TEXT (bytes, 100 at most)", EdgeTextTest::feedTillFull);
        due.sentence("A set-up is read from THE TEXT (bytes, 100 at most)", EdgeTextTest::readOfAllBytes);
        due.sentence("the first that a call's words name", EdgeTextTest::feedBadWhenFull);
    }

    private static void clauses() {
        due.sentence("CLAUSES, 1 to 12", EdgeTextTest::noClause);
        due.sentence("CLAUSES, 1 to 12", EdgeTextTest::oneClause);
        due.sentence("CLAUSES, 1 to 12", EdgeTextTest::twelveClauses);
        due.sentence("A thirteenth CLAUSE is a FAULT at the ; ahead of it", EdgeTextTest::thirteenClauses);
        due.sentence("with ; between", EdgeTextTest::semicolonsNotBetween);
        due.sentence("with ; between", EdgeTextTest::otherSignsBetween);
        due.sentence("Nothing else stands between.", EdgeTextTest::somethingElseBetween);
    }

    private static void wordsOfClauses() {
        due.sentence("size DIGIT (one blank between; as size())", EdgeTextTest::blanksOfSize);
        due.sentence("size DIGIT (one blank between; as size())", EdgeTextTest::digitsOfSize);
        due.sentence("path and a word of 1 to 10 letters n, e (one blank between", EdgeTextTest::blanksOfPath);
        due.sentence("path and a word of 1 to 10 letters n, e (one blank between", EdgeTextTest::noLetter);
        due.sentence("path and a word of 1 to 10 letters n, e (one blank between", EdgeTextTest::oneLetter);
        due.sentence("path and a word of 1 to 10 letters n, e (one blank between", EdgeTextTest::tenLetters);
        due.sentence("path and a word of 1 to 10 letters n, e (one blank between", EdgeTextTest::otherLetters);
        due.sentence("an eleventh letter of a path one at that letter", EdgeTextTest::elevenLetters);
        due.sentence("CHOSEN becomes that PATH; refused, if it is none of n)", EdgeTextTest::pathOfAnotherN);
        due.sentence("CHOSEN becomes that PATH; refused, if it is none of n)", EdgeTextTest::wordThatIsNoPath);
        due.sentence("up DIGIT, down DIGIT (one blank between; as raise(), lower())", EdgeTextTest::blanksOfUpAndDown);
        due.sentence("up DIGIT, down DIGIT (one blank between; as raise(), lower())", EdgeTextTest::digitsOfUp);
        due.sentence("up DIGIT, down DIGIT (one blank between; as raise(), lower())", EdgeTextTest::digitsOfDown);
        due.sentence("label and 1 to 5 DIGITS (one blank between", EdgeTextTest::blanksOfLabel);
        due.sentence("label and 1 to 5 DIGITS (one blank between", EdgeTextTest::noDigit);
        due.sentence("label and 1 to 5 DIGITS (one blank between", EdgeTextTest::sixDigits);
        due.sentence("label and 1 to 5 DIGITS (one blank between", EdgeTextTest::signsThatAreNoDigits);
        due.sentence("LABELS become these; refused, if they aren't 1 .. n, each once", EdgeTextTest::labelsOfEachN);
        due.sentence("LABELS become these; refused, if they aren't 1 .. n, each once", EdgeTextTest::tooFewOrTooManyLabels);
        due.sentence("LABELS become these; refused, if they aren't 1 .. n, each once", EdgeTextTest::labelsBelowAndAbove);
        due.sentence("LABELS become these; refused, if they aren't 1 .. n, each once", EdgeTextTest::labelsTwice);
        due.sentence("figures that are not as told are refused", EdgeTextTest::figuresAreNoFaults);
    }

    private static void faults() {
        due.sentence("The FAULT: the place of the first byte with which none begins so", EdgeTextTest::eachByteOtherwise);
        due.sentence("The FAULT: the place of the first byte with which none begins so", EdgeTextTest::eachByteBehindOne);
        due.sentence("The FAULT: the place of the first byte with which none begins so", EdgeTextTest::firstBytes);
        due.sentence("The FAULT: the place of the first byte with which none begins so", EdgeTextTest::behindAClause);
        due.sentence("(the end of THE TEXT, if it ends too early)", EdgeTextTest::endsTooEarly);
        due.sentence("(the end of THE TEXT, if it ends too early)", EdgeTextTest::endsBehindASemicolon);
        due.sentence("how many CLAUSES were done; -10 less the FAULT.", EdgeTextTest::firstAndLastFault);
        due.sentence("THE TEXT, which is empty then (by a FAULT, too), is a set-up", EdgeTextTest::emptyThen);
        due.sentence("THE TEXT, which is empty then (by a FAULT, too), is a set-up", EdgeTextTest::nothingIsLeft);
    }

    private static void doing() {
        due.sentence("Without it they are done, one behind the other", EdgeTextTest::oneBehindTheOther);
        due.sentence("Without it they are done, one behind the other", EdgeTextTest::noneDoneByAFault);
        due.sentence("those that would be refused aren't", EdgeTextTest::refusedAreNotDone);
        due.sentence("how many CLAUSES were done; -10 less the FAULT.", EdgeTextTest::noneAndAllDone);
        due.sentence("map (CHOSEN becomes its MAP); turn (it becomes what it is TURNED)", EdgeTextTest::mapAndTurn);
    }

    // ---- feed

    private static void feedFirstAndLastSign() {
        StairPaths x = new StairPaths();
        due.is("feed(0)", 1, x.feed(0));
        due.is("feed(127)", 2, x.feed(127));
        due.is("how many", 2, x.count(3));
    }

    private static void feedBelow() {
        StairPaths x = new StairPaths();
        for (int sign : new int[] {-1, -128, Stairs.MIN, Stairs.MIN + 'm'}) {
            due.is("feed(" + sign + ")", StairPaths.BAD, x.feed(sign));
        }
        due.is("how many", 0, x.count(3));
    }

    private static void feedAbove() {
        StairPaths x = new StairPaths();
        for (int sign : new int[] {128, 255, 256 + 'm', 65536 + 'm', Stairs.MAX}) {
            due.is("feed(" + sign + ")", StairPaths.BAD, x.feed(sign));
        }
        due.is("how many", 0, x.count(3));
    }

    private static void feedTillFull() {
        StairPaths x = new StairPaths();
        for (int i = 1; i <= 100; i++) {
            due.is("feed, byte " + i, i, x.feed('m'));
        }
        due.is("feed, byte 101", StairPaths.FULL, x.feed('m'));
        due.is("feed, once more", StairPaths.FULL, x.feed(0));
        due.is("how many", 100, x.count(3));
        x.read();
        due.is("feed behind read", 1, x.feed('m'));
    }

    private static void readOfAllBytes() {
        StairPaths x = Stairs.of(5, 1);
        Stairs.feed(x, EIGHT_LABELS + "turn");
        due.is("how many bytes", 100, x.count(3));
        due.is("FULL", StairPaths.FULL, x.feed(';'));
        due.is("read", 9, x.read());
        due.is("CHOSEN", 1, x.told(2));
    }

    private static void feedBadWhenFull() {
        StairPaths x = new StairPaths();
        Stairs.feed(x, "m".repeat(100));
        due.is("feed(128) when full", StairPaths.BAD, x.feed(128));
        due.is("feed(-1) when full", StairPaths.BAD, x.feed(-1));
        due.is("feed(127) when full", StairPaths.FULL, x.feed(127));
    }

    // ---- CLAUSES and what is between

    private static int read(String text) {
        return Stairs.read(new StairPaths(), text);
    }

    /** Whatever a set-up with a FAULT begins with, none of it is done. */
    private static void fault(int place, String text) {
        StairPaths x = Stairs.of("nneene", "312");
        due.is("read of <" + text + ">", -10 - place, Stairs.read(x, text));
        due.is("n behind <" + text + ">", 3, x.told(0));
        due.is("CHOSEN behind <" + text + ">", 2, x.told(2));
        due.is("LABELS behind <" + text + ">", "312", Stairs.labels(x));
        due.is("THE TEXT behind <" + text + ">", 0, x.count(3));
    }

    private static void noClause() {
        fault(0, "");
    }

    private static void oneClause() {
        for (String clause : new String[] {"size 4", "path nnenee", "map", "turn", "up 3", "down 1", "label 123"}) {
            due.is("CLAUSES done of " + clause, 1, Stairs.read(Stairs.of("nneene"), clause));
        }
    }

    private static void twelveClauses() {
        StairPaths x = Stairs.of("nnenee");
        due.is("CLAUSES done", 12, Stairs.read(x, "map;".repeat(11) + "map"));
        due.is("CHOSEN, by a ROUND of 3", 1, x.told(2));
        due.is("CLAUSES done", 12, Stairs.read(x, "map;".repeat(11) + "turn"));
        due.is("CHOSEN, the twelfth is done, too", Stairs.number("nennee"), x.told(2));
    }

    private static void thirteenClauses() {
        fault(47, "map;".repeat(12) + "map");
        fault(47, "map;".repeat(12));
        fault(47, "map;".repeat(12) + "x");
        fault(48, "map;".repeat(11) + "turn;turn");
        fault(83, "size 3;".repeat(12));
        fault(47, "map;".repeat(25));
    }

    private static void semicolonsNotBetween() {
        fault(0, ";map");
        fault(0, ";");
        fault(4, "map;;map");
        fault(4, "map;");
        fault(9, "map;turn;");
    }

    private static void otherSignsBetween() {
        for (char sign : new char[] {' ', ',', ':', '\n', '<', 0, 127}) {
            fault(3, "map" + sign + "turn");
        }
        fault(3, "mapmap");
        fault(6, "size 4map");
        fault(6, "path nmap");
        fault(9, "label 123turn");
    }

    private static void somethingElseBetween() {
        fault(0, " map");
        fault(3, "map ");
        fault(3, "map ;turn");
        fault(4, "map; turn");
        fault(6, "size 4 ");
        fault(6, "size 4\n");
        fault(5, "up 1; map");
        fault(11, "path nnenee ");
        fault(9, "label 123 ");
    }

    // ---- the WORDS of each CLAUSE

    private static void blanksOfSize() {
        fault(4, "size");
        fault(4, "size4");
        fault(4, "size\t4");
        fault(5, "size  4");
        fault(5, "size ;");
        fault(5, "size ");
    }

    private static void digitsOfSize() {
        for (int n = 0; n <= 9; n++) {
            StairPaths x = Stairs.of("nneene", "312");
            boolean can = n >= 2 && n <= 5;
            due.is("CLAUSES done of size " + n, can ? 1 : 0, Stairs.read(x, "size " + n));
            due.is("n", can ? n : 3, x.told(0));
            due.is("CHOSEN", can ? 0 : 2, x.told(2));
            due.is("LABELS", can ? "12345".substring(0, n) : "312", Stairs.labels(x));
        }
        fault(5, "size /");
        fault(5, "size :");
        fault(5, "size -");
        fault(6, "size 10");
        fault(6, "size 04");
    }

    private static void blanksOfPath() {
        fault(4, "path");
        fault(4, "pathnnenee");
        fault(4, "path\tnnenee");
        fault(5, "path  nnenee");
    }

    private static void noLetter() {
        fault(5, "path ");
        fault(5, "path ;map");
    }

    private static void oneLetter() {
        due.is("CLAUSES done of path n", 0, read("path n"));
        due.is("CLAUSES done of path e", 0, read("path e"));
        due.is("CLAUSES done of path n;map", 1, read("path n;map"));
    }

    private static void tenLetters() {
        StairPaths x = Stairs.of(5, 0);
        due.is("CLAUSES done", 1, Stairs.read(x, "path nenenenene"));
        due.is("CHOSEN", 41, x.told(2));
        due.is("CLAUSES done", 1, Stairs.read(x, "path nnnnneeeee"));
        due.is("CHOSEN", 0, x.told(2));
        due.is("ten letters that are no PATH", 0, read("path eeeeeeeeee"));
        due.is("ten letters and another CLAUSE", 1, read("path nnnnnnnnnn;map"));
    }

    private static void otherLetters() {
        for (char sign : new char[] {'N', 'E', 'd', 'f', 'm', 'o', '1', 0, 127}) {
            fault(5, "path " + sign);
            fault(6, "path n" + sign + "enee");
            fault(11, "path nnenee" + sign);
        }
    }

    private static void elevenLetters() {
        fault(15, "path nnnnneeeeen");
        fault(15, "path nnnnneeeeee");
        fault(19, "map;path nenenenenen");
        fault(15, "path " + "n".repeat(95));
    }

    private static void pathOfAnotherN() {
        String[] words = {"nene", "nenene", "nenenene", "nenenenene"};
        for (int n = 2; n <= 5; n++) {
            for (String word : words) {
                StairPaths x = Stairs.of(n, 1);
                boolean can = word.length() == 2 * n;
                due.is("CLAUSES done of path " + word + " by n " + n, can ? 1 : 0, Stairs.read(x, "path " + word));
                due.is("CHOSEN", can ? Stairs.lastPath(n) : 1, x.told(2));
            }
        }
    }

    private static void wordThatIsNoPath() {
        for (String word : new String[] {"neenne", "eennne", "eeennn", "nneeen", "nnnnee", "nneeee", "nnnnnn", "nnene",
            "nneneee", "nnnnne", "ne", "ennneee", "eeeennneee", "ennene", "nneenen", "nnneeeeeee"}) {
            StairPaths x = Stairs.of("nneene", "312");
            due.is("CLAUSES done of path " + word, 0, Stairs.read(x, "path " + word));
            due.is("CHOSEN", 2, x.told(2));
            due.is("LABELS", "312", Stairs.labels(x));
        }
    }

    private static void blanksOfUpAndDown() {
        fault(2, "up");
        fault(2, "up1");
        fault(3, "up  1");
        fault(3, "up ;");
        fault(4, "up 11");
        fault(4, "down");
        fault(4, "down1");
        fault(5, "down  1");
        fault(5, "down ;");
        fault(6, "down 11");
        fault(3, "up /");
        fault(3, "up :");
        fault(5, "down /");
        fault(5, "down :");
    }

    private static void digitsOfUp() {
        for (int n = 2; n <= 5; n++) {
            for (int i = 0; i <= 9; i++) {
                StairPaths x = Stairs.of(n, Stairs.lastPath(n));
                StairPaths y = Stairs.of(n, Stairs.lastPath(n));
                due.is("CLAUSES done of up " + i, i % 2 == 1 && i < 2 * n - 2 ? 1 : 0, Stairs.read(x, "up " + i));
                y.raise(i);
                due.is("CHOSEN as by raise(" + i + ")", y.told(2), x.told(2));
            }
        }
    }

    private static void digitsOfDown() {
        for (int n = 2; n <= 5; n++) {
            for (int i = 0; i <= 9; i++) {
                StairPaths x = Stairs.of(n, 0);
                due.is("CLAUSES done of down " + i, i == n - 1 ? 1 : 0, Stairs.read(x, "down " + i));
                due.is("CHOSEN", i == n - 1 ? 1 : 0, x.told(2));
            }
        }
        due.is("down under the slope", 0, Stairs.read(Stairs.of("nenene"), "down 0;down 2;down 4"));
    }

    private static void blanksOfLabel() {
        fault(5, "label");
        fault(5, "label123");
        fault(6, "label  123");
        fault(7, "label 1 2 3");
    }

    private static void noDigit() {
        fault(6, "label ");
        fault(6, "label ;map");
    }

    private static void sixDigits() {
        fault(11, "label 123456");
        fault(11, "label 123451");
        fault(15, "map;label 000000");
        due.is("five digits are no FAULT", 1, read("label 00000;map"));
        due.is("one digit is no FAULT", 1, read("label 1;map"));
    }

    private static void signsThatAreNoDigits() {
        for (char sign : new char[] {'/', ':', '-', 'n', 0, 127}) {
            fault(6, "label " + sign);
            fault(8, "label 12" + sign);
        }
    }

    private static void labelsOfEachN() {
        String[] fallen = {"21", "321", "4321", "54321"};
        for (int n = 2; n <= 5; n++) {
            StairPaths x = Stairs.of(n, 0);
            due.is("CLAUSES done of label " + fallen[n - 2], 1, Stairs.read(x, "label " + fallen[n - 2]));
            due.is("LABELS", fallen[n - 2], Stairs.labels(x));
            due.is("whether they are told well", 0, x.told(3));
            due.is("CHOSEN", 0, x.told(2));
        }
    }

    private static void labelsRefused(String word, String labels, String... refused) {
        for (String text : refused) {
            StairPaths x = Stairs.of(word, labels);
            due.is("CLAUSES done of label " + text + " by " + word, 0, Stairs.read(x, "label " + text));
            due.is("LABELS behind " + text, labels, Stairs.labels(x));
        }
    }

    private static void tooFewOrTooManyLabels() {
        labelsRefused("nneene", "312", "1", "12", "1234", "2134", "12345", "54321");
        labelsRefused("nene", "21", "1", "123", "12345");
        labelsRefused("nnnnneeeee", "32145", "1", "1234");
    }

    private static void labelsBelowAndAbove() {
        labelsRefused("nneene", "312", "012", "120", "124", "412", "923", "456");
        labelsRefused("nene", "21", "01", "13", "32", "00");
        labelsRefused("nnnnneeeee", "32145", "01234", "12346", "92345");
    }

    private static void labelsTwice() {
        labelsRefused("nneene", "312", "113", "131", "311", "222", "333");
        labelsRefused("nene", "21", "11", "22");
        labelsRefused("nnnnneeeee", "32145", "12344", "11234", "12315");
    }

    private static void figuresAreNoFaults() {
        due.is("read of what is all refused", 0, read("size 0;up 9;down 9;path e;label 99999;size 9"));
        due.is("read of what is refused ahead of a map", 1, read("size 1;size 6;up 5;down 5;label 444;map"));
    }

    // ---- the FAULT

    private static void eachByteOtherwise() {
        for (String clause : CLAUSES) {
            for (int place = 0; place < clause.length(); place++) {
                fault(place, clause.substring(0, place) + '#' + clause.substring(place + 1));
                fault(place, clause.substring(0, place) + (char) 127);
            }
        }
    }

    private static void eachByteBehindOne() {
        for (String clause : CLAUSES) {
            for (int place = 0; place < clause.length(); place++) {
                fault(4 + place, "map;" + clause.substring(0, place) + '#' + clause.substring(place + 1));
            }
        }
    }

    private static void firstBytes() {
        for (int sign = 0; sign < 128; sign++) {
            fault("spmtudl".indexOf(sign) >= 0 ? 1 : 0, "" + (char) sign);
        }
    }

    private static void behindAClause() {
        fault(3, "maps");
        fault(4, "turned");
        fault(6, "size 4x");
        fault(10, "path nene;x");
        fault(5, "path #");
        fault(10, "size 4;map#");
        fault(0, "Map");
        fault(0, "SIZE 4");
        fault(1, "mop");
        fault(2, "ma\0");
    }

    private static void endsTooEarly() {
        String[] shortest = {"size 4", "path n", "map", "turn", "up 1", "down 1", "label 1"};
        for (String clause : shortest) {
            for (int end = 0; end < clause.length(); end++) {
                fault(end, clause.substring(0, end));
            }
            due.holds(clause + " is no FAULT", read(clause) >= 0);
        }
    }

    private static void endsBehindASemicolon() {
        for (String clause : CLAUSES) {
            fault(clause.length() + 1, clause + ";");
        }
    }

    private static void firstAndLastFault() {
        fault(0, "#");
        fault(99, EIGHT_LABELS + "map#");
        fault(99, EIGHT_LABELS + "tur#");
        fault(100, EIGHT_LABELS + "map;");
        fault(100, EIGHT_LABELS + "labe");
    }

    private static void emptyThen() {
        StairPaths x = new StairPaths();
        due.is("read", 1, Stairs.read(x, "map"));
        due.is("how many bytes", 0, x.count(3));
        due.is("read again", -10, x.read());
        due.is("CHOSEN, by one MAP alone", 4, x.told(2));
        due.is("read with a FAULT", -12, Stairs.read(x, "maP"));
        due.is("how many bytes", 0, x.count(3));
        due.is("read again", -10, x.read());
        due.is("read of what is refused", 0, Stairs.read(x, "size 9"));
        due.is("how many bytes", 0, x.count(3));
    }

    private static void nothingIsLeft() {
        StairPaths x = new StairPaths();
        due.is("read", 2, Stairs.read(x, "turn;turn"));
        due.is("read of what ends too early", -13, Stairs.read(x, "tur"));
        due.is("read", 1, Stairs.read(x, "turn"));
        due.is("read, too early behind ;", -15, Stairs.read(x, "turn;"));
    }

    // ---- what is done

    private static void oneBehindTheOther() {
        StairPaths x = new StairPaths();
        due.is("size ahead of its path", 2, Stairs.read(x, "size 2;path nene"));
        due.is("CHOSEN", 1, x.told(2));
        due.is("path ahead of its size", 1, Stairs.read(x, "path nenene;size 3"));
        due.is("CHOSEN", 0, x.told(2));
        due.is("label ahead of map", 2, Stairs.read(x, "label 321;map"));
        due.is("LABELS", "123", Stairs.labels(x));
        due.is("label behind map", 2, Stairs.read(x, "map;label 321"));
        due.is("LABELS", "321", Stairs.labels(x));
        due.is("map, then turn", 2, Stairs.read(x, "path nneene;map;turn") - 1);
        due.is("CHOSEN", 1, x.told(2));
        due.is("turn, then map", 2, Stairs.read(x, "path nneene;turn;map") - 1);
        due.is("CHOSEN", 2, x.told(2));
    }

    private static void noneDoneByAFault() {
        fault(13, "map;size 5;up#");
        fault(23, "size 5;path nenenenene;");
        fault(14, "label 123;turn#");
    }

    private static void refusedAreNotDone() {
        StairPaths x = Stairs.of("nnenee");
        due.is("read", 2, Stairs.read(x, "size 7;up 2;up 2;path nnee;down 8;label 321"));
        due.is("n", 3, x.told(0));
        due.is("CHOSEN", 0, x.told(2));
        due.is("LABELS", "321", Stairs.labels(x));
    }

    private static void noneAndAllDone() {
        due.is("none of one", 0, read("size 6"));
        due.is("none of twelve", 0, read("up 0;".repeat(11) + "up 0"));
        due.is("eleven of twelve, not the first", 11, read("up 0;" + "map;".repeat(10) + "map"));
        due.is("eleven of twelve, not the last", 11, read("map;".repeat(11) + "up 0"));
    }

    private static void mapAndTurn() {
        for (int n = 2; n <= 5; n++) {
            StairPaths x = Stairs.of(n, 0);
            Stairs.read(x, "map");
            due.is("CHOSEN is the last PATH", Stairs.lastPath(n), x.told(2));
            Stairs.read(x, "turn");
            due.is("the last PATH TURNED", Stairs.lastPath(n), x.told(2));
            Stairs.read(x, "map");
            due.is("CHOSEN is PATH 0", 0, x.told(2));
            Stairs.read(x, "turn");
            due.is("PATH 0 TURNED", 0, x.told(2));
        }
    }
}
