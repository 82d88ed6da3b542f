/** The edges that the document names of texts (promises 3, 8 and 9), a test a sentence. */
public final class TextsEdgesTest {
    private static final int FULL = SureMendings.FULL;
    private static final String DIGITS = "0123456789";
    private static final String VALUES = "abcdefgh";
    private static final Due due = new Due();

    public static void main(String[] args) {
        at80Characters();
        aRefusedCharacterIsNotTyped();
        emptyAtFirstAndWhenCleared();
        allowedAtEachPlace();
        endsTooEarly();
        theFirstFaultIsTold();
        oneOrMoreRows();
        weightsAsTheyAreRead();
        pointersAsTheyAreRead();
        faultsAtTheEndOfAFullText();
        allOfThemOrNone();
        faultAheadOfFull();
        readRowsReturnsTheRowsThen();
        theTextStays();
        due.finish();
    }

    private static SureMendings typed(String text) {
        SureMendings x = new SureMendings();
        Made.type(x, text);
        return x;
    }

    /** "There is a text of at most 80 characters"; type: "FULL if it has 80 characters". */
    private static void at80Characters() {
        SureMendings x = new SureMendings();
        for (int length = 1; length <= 80; length++) {
            due.is("character " + length, x.type((char) (length * 819 + 30)), length);
            due.is("the length then", x.count(11), length);
        }
        due.is("character 81", x.type('0'), FULL);
        due.is("any 81st", x.type('\0'), FULL);
        due.is("the length stays", x.count(11), 80);
        due.is("clearText", x.clearText(), 80);
        due.is("there is room again", x.type('0'), 1);
    }

    /** A character that is refused is not typed: the text is read as it was. */
    private static void aRefusedCharacterIsNotTyped() {
        SureMendings x = typed("0=a,".repeat(19) + "9=h7");
        due.is("character 81", x.type('7'), FULL);
        due.is("the rows are read", x.readRows(), 20);
        due.is("the last one's weight", x.row(19, 2), 7);
        due.is("the first one's key", x.row(0, 0), 0);
    }

    /** "empty at first"; clearText: "Returns the length that it had." */
    private static void emptyAtFirstAndWhenCleared() {
        SureMendings x = new SureMendings();
        due.is("the length at first", x.count(11), 0);
        due.is("clearText of an empty text", x.clearText(), 0);
        due.is("one character", x.type('7'), 1);
        due.is("clearText of one", x.clearText(), 1);
        due.is("and once more", x.clearText(), 0);
        due.is("it is empty", x.readRows(), -100);
        Made.type(x, "=a");
        due.is("nothing is left in front", x.readRows(), -100);
        due.is("clearText of two", x.clearText(), 2);
        Made.type(x, "3=c");
        due.is("a text after others", x.readRows(), 1);
    }

    /** "The fault of the text is the index ... of the first character that is not allowed at its place". */
    private static void allowedAtEachPlace() {
        allowed("", DIGITS, "");
        allowed("0", "=", "");
        allowed("9=", "", VALUES);
        allowed("0=a", ">,", "123456789");
        allowed("0=h1", ">,", DIGITS);
        allowed("0=h9", ">,", DIGITS);
        allowed("0=a10", ">,", "");
        allowed("0=a99", ">,", "");
        allowed("0=a>", "", DIGITS);
        allowed("0=a1>", "", DIGITS);
        allowed("0=a12>", "", DIGITS);
        allowed("0=a>0", ",", "");
        allowed("0=a12>9", ",", "");
        allowed("0=a,", DIGITS, "");
        allowed("0=a1,", DIGITS, "");
        allowed("0=a>1,", DIGITS, "");
        allowed("0=a12>3,4", "=", "");
        allowed("0=a12>3,4=", "", VALUES);
        allowed("0=a12>3,4=b", ">,", "123456789");
        allowed("0=a,".repeat(19) + "0", "=", "");
        allowed("0=a,".repeat(19) + "0=", "", VALUES);
        allowed("0=a,".repeat(19) + "0=a", ">,", "123456789");
    }

    /** All characters behind the start: those of more are allowed, but the text may not end so; those of end, and may. */
    private static void allowed(String start, String more, String end) {
        for (int number = 0; number < 400; number++) {
            char character = (char) (number < 300 ? number : 0xff00 + number - 300);
            String text = start + character;
            int want = -100 - start.length();
            if (more.indexOf(character) >= 0) {
                want = -100 - text.length();
            } else if (end.indexOf(character) >= 0) {
                want = text.split(",").length;
            }
            due.is("readRows of '" + start + "' and " + (int) character, typed(text).readRows(), want);
        }
    }

    /** "or the length of the text if it ends too early (the empty text does)" */
    private static void endsTooEarly() {
        String text = "1=b23>4,5=f";
        int[] faults = {0, 1, 2, -1, -1, -1, 6, -1, 8, 9, 10, -1};
        for (int length = 0; length < faults.length; length++) {
            int want = faults[length] < 0 ? (length > 8 ? 2 : 1) : -100 - faults[length];
            due.is("the first " + length + " characters", typed(text.substring(0, length)).readRows(), want);
        }
    }

    /** "the first character that is not allowed": what comes behind it does not matter. */
    private static void theFirstFaultIsTold() {
        for (String behind : new String[] {"", "x", "=a", ",0=a", "0=a,0=a>1", "???"}) {
            due.is("a fault at 0, then '" + behind + "'", typed("x" + behind).readRows(), -100);
            due.is("a fault at 1, then '" + behind + "'", typed("0x" + behind).readRows(), -101);
            due.is("a fault at 2, then '" + behind + "'", typed("0=x" + behind).readRows(), -102);
            due.is("a fault at 3, then '" + behind + "'", typed("0=a0" + behind).readRows(), -103);
            due.is("a fault at 5, then '" + behind + "'", typed("0=a123" + behind).readRows(), -105);
            due.is("a fault at 4, then '" + behind + "'", typed("0=a>x" + behind).readRows(), -104);
            due.is("a fault in the second row, then '" + behind + "'", typed("0=a,x" + behind).readRows(), -104);
        }
    }

    /** "A text of rows is one or more rows with "," between two". */
    private static void oneOrMoreRows() {
        due.is("none", typed("").readRows(), -100);
        for (int rows = 1; rows <= 20; rows++) {
            String text = ",0=a".repeat(rows).substring(1);
            due.is(rows + " rows", typed(text).readRows(), rows);
            due.is(rows + " rows and one more comma", typed(text + ",").readRows(), -100 - 4 * rows);
        }
        due.is("a comma in front", typed(",0=a").readRows(), -100);
        due.is("two commas between two", typed("0=a,,0=a").readRows(), -104);
        due.is("none between two", typed("0=a0=a").readRows(), -103);
    }

    /** "perhaps a weight (1 to 99; without it 0)"; "Weights have no zero in front; a third digit is not allowed." */
    private static void weightsAsTheyAreRead() {
        for (int weight = 1; weight < 100; weight++) {
            SureMendings x = typed("5=c" + weight);
            due.is("a row of weight " + weight, x.readRows(), 1);
            due.all("as it is read", Told.row(x, 0), 5, 'c', weight, SureMendings.NONE, 1, 1);
        }
        SureMendings without = typed("5=c");
        without.readRows();
        due.is("without it", without.row(0, 2), 0);
        due.is("a zero alone", typed("5=c0").readRows(), -103);
        for (int digit = 0; digit < 10; digit++) {
            due.is("a zero in front of " + digit, typed("5=c0" + digit).readRows(), -103);
            due.is("a third digit " + digit, typed("5=c99" + digit).readRows(), -105);
            due.is("a third digit " + digit + " behind a zero", typed("5=c10" + digit + ">1").readRows(), -105);
        }
    }

    /** "and perhaps ">" and a key" */
    private static void pointersAsTheyAreRead() {
        for (int to = 0; to < 10; to++) {
            SureMendings x = typed(to + "=h>" + to + "," + to + "=a7>" + (9 - to));
            due.is("two rows", x.readRows(), 2);
            due.all("without a weight", Told.row(x, 0), to, 'h', 0, to, 1, 0);
            due.all("with a weight", Told.row(x, 1), to, 'a', 7, 9 - to, 1, 0);
        }
        SureMendings none = typed("9=a9");
        none.readRows();
        due.is("without it", none.row(0, 3), SureMendings.NONE);
        due.is("a weight behind it", typed("0=a>12").readRows(), -105);
        due.is("two of them", typed("0=a>1>2").readRows(), -105);
    }

    private static void faultsAtTheEndOfAFullText() {
        String most = "0=a1>1,".repeat(11);
        due.is("80 characters, all allowed", typed(most + "0=a").readRows(), 12);
        due.is("a fault at the last of 80", typed(most + "0=i").readRows(), -179);
        due.is("79 characters that end too early", typed(most + "0=").readRows(), -179);
        due.is("80 characters that end too early", typed("0=a>1,".repeat(13) + "0=").readRows(), -180);
        due.is("80 characters that end with a comma", typed("0=a,".repeat(20)).readRows(), -180);
    }

    private static SureMendings withRows(int rows, String text) {
        SureMendings x = new SureMendings();
        for (int row = 0; row < rows; row++) {
            x.add(row % 10, 'b', row, 1);
        }
        Made.type(x, text);
        return x;
    }

    /** readRows: "all of them, or none"; "FULL if there would be more than 20". */
    private static void allOfThemOrNone() {
        for (int there = 0; there <= 20; there++) {
            for (int read = 1; read <= 20; read++) {
                SureMendings x = withRows(there, ",0=a".repeat(read).substring(1));
                boolean room = there + read <= 20;
                due.is(read + " to " + there, x.readRows(), room ? there + read : FULL);
                due.is("rows then", x.count(0), room ? there + read : there);
                due.is("states then", x.count(10), Math.min(4, there + (room ? 1 : 0)));
            }
        }
    }

    private static void faultAheadOfFull() {
        due.is("a fault with twenty rows", withRows(20, "0=a,").readRows(), -104);
        due.is("the empty text with twenty rows", withRows(20, "").readRows(), -100);
        due.is("a fault behind more rows than there is room for", withRows(18, "0=a,0=a,0=a,0").readRows(), -113);
        due.is("no fault with twenty rows", withRows(20, "0=a").readRows(), FULL);
    }

    /** readRows: "Returns how many rows there are then". */
    private static void readRowsReturnsTheRowsThen() {
        SureMendings x = withRows(17, "0=a,1=b");
        due.is("behind seventeen", x.readRows(), 19);
        due.same("in their order, behind the others", Made.rows(x).substring(Made.rows(x).length() - 7), "0=a,1=b");
        due.is("it does not fit again", x.readRows(), FULL);
        x.remove(0);
        due.is("it fits once one is gone", x.readRows(), 20);
    }

    /** readRows: "Adds the rows of the text, which stays". */
    private static void theTextStays() {
        SureMendings x = typed("0=a");
        x.readRows();
        due.is("its length", x.count(11), 3);
        due.is("the same rows again", x.readRows(), 2);
        due.is("one character more", x.type('5'), 4);
        due.is("the longer text", x.readRows(), 3);
        due.is("its weight", x.row(2, 2), 5);
        SureMendings faulty = typed("0=");
        faulty.readRows();
        due.is("a text with a fault", faulty.count(11), 2);
        due.is("is mended by a character", faulty.type('h'), 3);
        due.is("and read", faulty.readRows(), 1);
    }
}
