/** The edges that the document names of rows, and of the acts on them (promises 1, 2 and 4 to 7), a test a sentence. */
public final class RowsEdgesTest {
    private static final int UNKNOWN = SureMendings.UNKNOWN;
    private static final int BAD_VALUE = SureMendings.BAD_VALUE;
    private static final int FULL = SureMendings.FULL;
    private static final int NONE = SureMendings.NONE;
    private static final Due due = new Due();

    public static void main(String[] args) {
        tenKeys();
        valuesFromAToH();
        weightsTo99();
        pointsToAKeyOrToNone();
        twentyRowsAtMost();
        toldInTheirOrder();
        thoseBehindMoveUp();
        rowsMayBeAlike();
        keyIsThereIfAnyRowHasIt();
        doubledIfSeveralHaveIt();
        newTableHasNoRows();
        addReturnsTheNumber();
        removeReturnsTheRest();
        mendReturnsTheRemoved();
        mendNoneWithoutAnother();
        mendAllRules();
        mendAllLeavesKeysThatAreNotThere();
        mendAllHeaviestOfSeveralTheFirst();
        mendAllNoneWithoutDoubled();
        preferReturnsTheMendings();
        preferNoneIfItIsSo();
        lastPromisedCall();
        due.finish();
    }

    /** "There are 10 keys, 0 to 9." */
    private static void tenKeys() {
        for (int key = 0; key < 10; key++) {
            SureMendings x = new SureMendings();
            due.is("add of key " + key, x.add(key, 'a', 0, NONE), 0);
            due.is("its row has key " + key, x.row(0, 0), key);
            due.is("key(" + key + ", 0)", x.key(key, 0), 1);
            due.is("kept(0, " + key + ")", x.kept(0, key), 0);
            due.is("way of " + key + " to itself", x.way(key, key, 0), 1);
            due.is("bestMended of " + key + " to itself", x.bestMended(key, key, 0), NONE);
        }
        SureMendings x = Made.of("0=a>9,9=a>0");
        for (int key : Made.outside(0, 9)) {
            due.is("add of key " + key, x.add(key, 'a', 0, NONE), UNKNOWN);
            due.is("key(" + key + ", 0)", x.key(key, 0), UNKNOWN);
            due.is("kept(0, " + key + ")", x.kept(0, key), UNKNOWN);
            due.is("way from " + key, x.way(key, 0, 1), UNKNOWN);
            due.is("way to " + key, x.way(0, key, 1), UNKNOWN);
            due.is("way of " + key + " to itself", x.way(key, key, 1), UNKNOWN);
            due.is("bestMended from " + key, x.bestMended(key, 0, 0), UNKNOWN);
            due.is("bestMended to " + key, x.bestMended(0, key, 0), UNKNOWN);
        }
        due.is("NONE is no key", x.add(NONE, 'a', 0, NONE), UNKNOWN);
        due.is("nor is it one for a way", x.way(NONE, NONE, 0), UNKNOWN);
        due.is("two rows are there", x.count(0), 2);
    }

    /** "A row has a key, a value (a to h), ..." */
    private static void valuesFromAToH() {
        SureMendings x = new SureMendings();
        for (char value = 'a'; value <= 'h'; value++) {
            due.is("add of " + value, x.add(0, value, 0, NONE), value - 'a');
            due.is("its code", x.row(value - 'a', 1), value);
            due.is("value " + value, x.value(value, 1), 1);
        }
        for (char value : Made.noValues()) {
            due.is("add of character " + (int) value, x.add(0, value, 0, NONE), BAD_VALUE);
            due.is("value, character " + (int) value, x.value(value, 1), BAD_VALUE);
        }
        due.is("eight rows are there", x.count(0), 8);
    }

    /** "... a weight (0 to 99) ..." */
    private static void weightsTo99() {
        SureMendings x = new SureMendings();
        int[] weights = {0, 1, 9, 10, 98, 99};
        for (int row = 0; row < weights.length; row++) {
            due.is("add of weight " + weights[row], x.add(0, 'a', weights[row], NONE), row);
            due.is("its weight", x.row(row, 2), weights[row]);
        }
        for (int weight : Made.outside(0, 99)) {
            due.is("add of weight " + weight, x.add(0, 'a', weight, NONE), BAD_VALUE);
        }
        due.is("six rows are there", x.count(0), 6);
    }

    /** "... and points to a key, or to none." */
    private static void pointsToAKeyOrToNone() {
        SureMendings x = new SureMendings();
        for (int to = 0; to < 10; to++) {
            due.is("add to " + to, x.add(0, 'a', 0, to), to);
            due.is("it points to " + to, x.row(to, 3), to);
            due.is("one row points to " + to, x.key(to, 4), 1);
        }
        due.is("add to none", x.add(0, 'a', 0, NONE), 10);
        due.is("it points to none", x.row(10, 3), NONE);
        for (int to : Made.outside(0, 9)) {
            due.is("add to " + to, x.add(0, 'a', 0, to), UNKNOWN);
        }
        for (int constant : new int[] {UNKNOWN, BAD_VALUE, FULL, SureMendings.NOT_POSSIBLE}) {
            due.is("add to the constant " + constant, x.add(0, 'a', 0, constant), UNKNOWN);
        }
        due.is("eleven rows are there", x.count(0), 11);
    }

    /** "At most 20 rows are there"; "FULL if there are 20". */
    private static void twentyRowsAtMost() {
        SureMendings x = new SureMendings();
        for (int row = 0; row < 20; row++) {
            due.is("add of row " + row, x.add(row % 10, 'a', row, NONE), row);
            due.is("rows", x.count(0), row + 1);
        }
        due.is("a 21st", x.add(0, 'a', 0, NONE), FULL);
        due.is("a 21st of a key that is alike", x.add(9, 'a', 19, NONE), FULL);
        due.is("twenty stay", x.count(0), 20);
        due.is("the last of them", x.row(19, 2), 19);
        due.is("no row behind it", x.row(20, 2), UNKNOWN);
        due.is("mend one of two", x.mend(19), 1);
        due.is("the 20th again", x.add(9, 'b', 7, NONE), 19);
        due.is("and full again", x.add(9, 'b', 7, NONE), FULL);
    }

    /** "they are told in the order in which they came, numbered from 0" */
    private static void toldInTheirOrder() {
        SureMendings x = Made.of("9=h9>9,0=a>0,5=d50,0=a1>0");
        due.all("row 0", Told.row(x, 0), 9, 'h', 9, 9, 1, 1);
        due.all("row 1", Told.row(x, 1), 0, 'a', 0, 0, 1, 0);
        due.all("row 2", Told.row(x, 2), 5, 'd', 50, NONE, 1, 1);
        due.all("row 3", Told.row(x, 3), 0, 'a', 1, 0, 1, 0);
        for (int row : Made.outside(0, 3)) {
            due.is("row(" + row + ", 0)", x.row(row, 0), UNKNOWN);
        }
    }

    /** "when one is removed, those behind it move up" */
    private static void thoseBehindMoveUp() {
        String[] left = {"1=b2,1=c3>4,0=d4,2=e5", "0=a1,1=c3>4,0=d4,2=e5", "0=a1,1=b2,0=d4,2=e5",
            "0=a1,1=b2,1=c3>4,2=e5", "0=a1,1=b2,1=c3>4,0=d4"};
        for (int row = 0; row < left.length; row++) {
            SureMendings x = Made.of("0=a1,1=b2,1=c3>4,0=d4,2=e5");
            due.is("remove(" + row + ")", x.remove(row), 4);
            due.same("rows then", Made.rows(x), left[row]);
            due.is("no row behind the last one", x.row(4, 0), UNKNOWN);
        }
        SureMendings mended = Made.of("0=a1,1=b2,1=c3>4,0=d4,2=e5");
        mended.mend(3);
        due.same("behind those that mend removes", Made.rows(mended), "1=b2,1=c3>4,0=d4,2=e5");
        mended.mendAll(1);
        due.same("behind those that mendAll removes", Made.rows(mended), "1=c3>4,0=d4,2=e5");
        SureMendings full = Made.full();
        due.is("the first of twenty", full.remove(0), 19);
        for (int row = 0; row < 19; row++) {
            due.is("weight of row " + row, full.row(row, 2), row + 1);
        }
    }

    /** "Rows may be alike." */
    private static void rowsMayBeAlike() {
        SureMendings x = new SureMendings();
        for (int row = 0; row < 20; row++) {
            due.is("a row like all others", x.add(4, 'd', 44, 4), row);
        }
        due.all("counts", Told.count(x), 20, 1, 1, 20, 0, 1, 1, 1, 1, 0, 4, 0);
        due.is("the last mending keeps the last of them", x.kept(19, 4), 19);
        due.is("remove one", x.remove(7), 19);
        due.is("mend", x.mend(18), 18);
        due.all("one of them", Told.row(x, 0), 4, 'd', 44, 4, 1, 1);
    }

    /** "A key is there if any row has it"; a pointer to it is none. */
    private static void keyIsThereIfAnyRowHasIt() {
        SureMendings x = Made.of("3=a>7,3=a>7");
        due.is("one key", x.count(1), 1);
        due.is("none that is pointed to", x.kept(0, 7), NONE);
        due.is("a way to it", x.way(3, 7, 1), 0);
        x.remove(0);
        due.is("one row is enough", x.count(1), 1);
        due.is("it is kept", x.kept(0, 3), 0);
        x.remove(0);
        due.is("none is left", x.count(1), 0);
        due.is("nothing is kept", x.kept(0, 3), NONE);
        SureMendings all = Made.of("0=a,1=a,2=a,3=a,4=a,5=a,6=a,7=a,8=a,9=a");
        due.is("all ten", all.count(1), 10);
    }

    /** "it is doubled if several have it" */
    private static void doubledIfSeveralHaveIt() {
        SureMendings x = Made.of("5=a1,6=a1");
        due.is("one row each", x.count(2), 0);
        x.add(5, 'b', 2, NONE);
        due.is("two rows of one", x.count(2), 1);
        x.add(5, 'c', 3, NONE);
        due.is("three rows of one", x.count(2), 1);
        x.add(6, 'c', 3, NONE);
        due.is("two rows of another", x.count(2), 2);
        x.prefer(true);
        due.is("also if only one of them can be kept", x.count(2), 2);
        due.is("and there is one mending", x.count(3), 1);
        x.remove(1);
        due.is("one row is left of it", x.count(2), 1);
        due.is("ten at most", Made.full().count(2), 10);
    }

    /** "Creates a table without rows." */
    private static void newTableHasNoRows() {
        SureMendings x = new SureMendings();
        due.all("counts", Told.count(x), 0, 0, 0, 1, 0, 0, 0, 0, 0, 0, 0, 0);
        for (int key = 0; key < 10; key++) {
            due.all("key " + key, Told.key(x, key), 0, 0, NONE, NONE, 0);
        }
        due.all("sums", Told.sum(x), 0, 0, 0, 0);
        due.is("no row", x.row(0, 0), UNKNOWN);
        due.is("none to remove", x.remove(0), UNKNOWN);
        due.is("none to mend", x.mend(0), UNKNOWN);
        due.is("none to mend at all", x.mendAll(0), NONE);
        due.is("no text", x.readRows(), -100);
        due.is("no character", x.clearText(), 0);
        due.is("no history", x.undo(), NONE);
        due.is("no snapshot", x.restore(), NONE);
        due.is("no preference", x.prefer(false), NONE);
        due.is("nothing to keep", x.keep(), 0);
        due.same("none of these did a thing", Made.told(x), Made.told(new SureMendings()));
    }

    /** add: "Returns its number". */
    private static void addReturnsTheNumber() {
        SureMendings x = new SureMendings();
        due.is("the first", x.add(9, 'a', 0, NONE), 0);
        due.is("the second", x.add(0, 'a', 0, NONE), 1);
        x.remove(0);
        due.is("behind one that moved up", x.add(9, 'b', 0, NONE), 1);
        x.undo();
        x.undo();
        due.is("behind two that are there again", x.add(3, 'c', 0, NONE), 2);
    }

    /** remove: "Returns how many rows are left; UNKNOWN." */
    private static void removeReturnsTheRest() {
        SureMendings x = Made.full();
        due.is("a row behind the last one", x.remove(20), UNKNOWN);
        for (int left = 19; left >= 0; left--) {
            due.is("remove the last one", x.remove(left), left);
            due.is("and once more", x.remove(left), UNKNOWN);
            due.is("one below 0", x.remove(-1), UNKNOWN);
        }
        due.is("without rows", x.remove(0), UNKNOWN);
        for (int row : Made.outside(0, 0)) {
            due.is("remove(" + row + ")", x.remove(row), UNKNOWN);
        }
    }

    /** mend: "all other rows with its key are removed"; "Returns how many are removed; UNKNOWN". */
    private static void mendReturnsTheRemoved() {
        SureMendings x = Made.of("4=a,4=b,5=c,4=d,5=e");
        for (int row : Made.outside(0, 4)) {
            due.is("mend(" + row + ")", x.mend(row), UNKNOWN);
        }
        due.is("the first row", x.mend(0), 2);
        due.same("the other key stays doubled", Made.rows(x), "4=a,5=c,5=e");
        due.is("the last row", x.mend(2), 1);
        due.same("rows then", Made.rows(x), "4=a,5=e");
        for (int row = 0; row < 20; row += 19) {
            SureMendings alike = new SureMendings();
            for (int each = 0; each < 20; each++) {
                alike.add(7, 'a', each, NONE);
            }
            due.is("mend by row " + row + " of twenty", alike.mend(row), 19);
            due.is("it is the one", alike.row(0, 2), row);
            due.is("it alone", alike.count(0), 1);
        }
    }

    /** mend: "NONE if there is no other one". */
    private static void mendNoneWithoutAnother() {
        SureMendings x = Made.of("4=a,5=b,4=c");
        due.is("a row that is alone", x.mend(1), NONE);
        due.is("one of two", x.mend(0), 1);
        due.is("the same once more", x.mend(0), NONE);
        due.is("the only row of all", Made.of("0=a").mend(0), NONE);
    }

    /** mendAll: "0 by the first one, 1 by the last one, 2 by the heaviest one". */
    private static void mendAllRules() {
        String[] left = {"9=a2,0=b5,4=h", "4=h,0=d4,9=f1", "0=b5,9=c3,4=h"};
        for (int rule = 0; rule < 3; rule++) {
            SureMendings x = Made.of("9=a2,0=b5,9=c3,4=h,0=d4,9=f1");
            due.is("mendAll(" + rule + ")", x.mendAll(rule), 3);
            due.same("rows then", Made.rows(x), left[rule]);
        }
        SureMendings x = Made.of("0=a,0=b");
        for (int rule : Made.outside(0, 2)) {
            due.is("mendAll(" + rule + ")", x.mendAll(rule), BAD_VALUE);
        }
        due.is("both rows stay", x.count(0), 2);
        due.is("ten of twenty", Made.full().mendAll(2), 10);
    }

    /** mendAll: "Mends all doubled keys ..., each by one of its rows"; keys that are not there choose no row. */
    private static void mendAllLeavesKeysThatAreNotThere() {
        String[] left = {"7=a1,5=c4,9=d2", "5=c4,7=b2,9=e1", "5=c4,7=b2,9=d2"};
        for (int rule = 0; rule < 3; rule++) {
            SureMendings x = Made.of("7=a1,7=a,5=c4,7=b2,9=d2,9=e1");
            due.is("mendAll(" + rule + ") of keys 5 to 9", x.mendAll(rule), 3);
            due.same("rows then", Made.rows(x), left[rule]);
        }
    }

    /** mendAll: "of several the first one". */
    private static void mendAllHeaviestOfSeveralTheFirst() {
        SureMendings x = Made.of("1=a5,1=b6,1=c6,2=d,2=e,3=f99,3=g99,3=h98");
        due.is("mendAll(2)", x.mendAll(2), 5);
        due.same("the first of the heaviest", Made.rows(x), "1=b6,2=d,3=f99");
    }

    /** mendAll: "NONE if no key is doubled". */
    private static void mendAllNoneWithoutDoubled() {
        for (int rule = 0; rule < 3; rule++) {
            due.is("without rows", new SureMendings().mendAll(rule), NONE);
            due.is("with one row", Made.of("0=a").mendAll(rule), NONE);
            due.is("with a row of each key", Made.of("9=a,8=a,7=a,6=a,5=a,4=a,3=a,2=a,1=a,0=a").mendAll(rule), NONE);
            due.is("with one doubled key, the lowest", Made.of("0=a,1=a,0=a").mendAll(rule), 1);
            due.is("with one doubled key, the highest", Made.of("9=a,1=a,9=a").mendAll(rule), 1);
        }
    }

    /** prefer: "Returns how many mendings there are then". */
    private static void preferReturnsTheMendings() {
        due.is("without rows", new SureMendings().prefer(true), 1);
        SureMendings x = Made.of("0=a1,0=b1,1=a1,1=b2,1=c2,1=d2");
        due.is("on", x.prefer(true), 2 * 3);
        due.is("off", x.prefer(false), 2 * 4);
        SureMendings most = new SureMendings();
        for (int row = 0; row < 20; row++) {
            most.add(row % 7, 'a', row, NONE);
        }
        due.is("one of the most", most.prefer(true), 1);
        due.is("the most", most.prefer(false), 1458);
    }

    /** prefer: "NONE if it is so already". */
    private static void preferNoneIfItIsSo() {
        SureMendings x = Made.of("0=a1,0=b2");
        due.is("off at first", x.prefer(false), NONE);
        due.is("on", x.prefer(true), 1);
        due.is("on already", x.prefer(true), NONE);
        due.is("it stays on", x.count(9), 1);
        due.is("off", x.prefer(false), 2);
        due.is("off already", x.prefer(false), NONE);
        due.is("it stays off", x.count(9), 0);
        x.undo();
        due.is("on again by undo, so already", x.prefer(true), NONE);
    }

    /** "An object is used for at most 512 calls" */
    private static void lastPromisedCall() {
        SureMendings x = new SureMendings();
        for (int calls = 0; calls < 508; calls += 2) {
            x.add(calls % 10, 'a', calls % 100, NONE);
            x.remove(0);
        }
        due.is("call 509", x.add(1, 'b', 99, 1), 0);
        due.is("call 510", x.count(10), 4);
        due.is("call 511", x.undo(), 3);
        due.is("call 512", x.count(0), 0);
    }
}
