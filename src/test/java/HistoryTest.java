/** Promises 10 to 12: undo, and the snapshot. */
public final class HistoryTest {
    private static final int NONE = SureMendings.NONE;
    private static final Due due = new Due();

    public static void main(String[] args) {
        undo();
        undoKeepsTheLatestFour();
        undoAndActsInTurn();
        keepAndRestore();
        snapshotIsNoPartOfTheState();
        onlyActsAreRecorded();
        due.finish();
    }

    private static void undo() {
        SureMendings x = new SureMendings();
        due.is("undo of nothing", x.undo(), NONE);
        x.add(1, 'a', 1, 2);
        x.prefer(true);
        x.add(1, 'b', 2, NONE);
        due.is("undo", x.undo(), 2);
        due.same("the row is gone", Made.told(x), "1=a1>2 preference 1 history 2 text 0");
        due.is("undo", x.undo(), 1);
        due.same("the preference is off", Made.told(x), "1=a1>2 preference 0 history 1 text 0");
        due.is("undo", x.undo(), 0);
        due.same("all is gone", Made.told(x), " preference 0 history 0 text 0");
        due.is("undo once more", x.undo(), NONE);
    }

    private static void undoKeepsTheLatestFour() {
        SureMendings x = new SureMendings();
        for (int key = 0; key < 10; key++) {
            x.add(key, 'a', key, key);
            due.is("states in the history", x.count(10), Math.min(key + 1, 4));
        }
        for (int left = 3; left >= 0; left--) {
            due.is("undo", x.undo(), left);
            due.is("rows then", x.count(0), 6 + left);
        }
        due.is("the older ones were dropped", x.undo(), NONE);
        due.is("six rows stay", x.count(0), 6);
    }

    private static void undoAndActsInTurn() {
        SureMendings x = Made.of("0=a,1=b,2=c,3=d,4=e,5=f");
        x.undo();
        x.undo();
        x.add(9, 'h', 9, 9);
        due.is("two undone and one done", x.count(10), 3);
        due.same("rows", Made.rows(x), "0=a,1=b,2=c,3=d,9=h9>9");
        x.mend(0);
        x.remove(0);
        x.add(8, 'g', 0, NONE);
        x.add(7, 'g', 0, NONE);
        due.is("four again", x.count(10), 4);
        for (String rows : new String[] {"1=b,2=c,3=d,9=h9>9,8=g", "1=b,2=c,3=d,9=h9>9", "0=a,1=b,2=c,3=d,9=h9>9",
            "0=a,1=b,2=c,3=d"}) {
            x.undo();
            due.same("undone", Made.rows(x), rows);
        }
        due.is("no more", x.undo(), NONE);
    }

    private static void keepAndRestore() {
        SureMendings x = new SureMendings();
        due.is("no snapshot", x.restore(), NONE);
        due.is("that is no act", x.count(10), 0);
        due.is("keep without rows", x.keep(), 0);
        due.is("keep is no act", x.count(10), 0);
        x.add(3, 'c', 3, NONE);
        due.is("restore no rows", x.restore(), 0);
        due.is("restore is an act", x.count(10), 2);
        x.undo();
        due.same("restore undone", Made.rows(x), "3=c3");
        x.prefer(true);
        due.is("keep in place of the one that was", x.keep(), 1);
        x.add(3, 'd', 9, NONE);
        x.prefer(false);
        due.is("restore", x.restore(), 1);
        due.same("rows and preference", Made.told(x), "3=c3 preference 1 history 4 text 0");
        due.is("the snapshot stays", x.restore(), 1);
        x.remove(0);
        due.is("a change does not reach it", x.restore(), 1);
        due.same("as it was", Made.rows(x), "3=c3");
        x.undo();
        due.same("undo of restore", Made.rows(x), "");
    }

    private static void snapshotIsNoPartOfTheState() {
        SureMendings x = new SureMendings();
        x.add(1, 'a', 0, NONE);
        x.keep();
        x.undo();
        due.is("undo leaves the snapshot", x.restore(), 1);
        Made.type(x, "2=b");
        x.undo();
        due.is("undo leaves the text", x.count(11), 3);
        x.keep();
        x.restore();
        due.is("restore leaves the text", x.count(11), 3);
    }

    private static void onlyActsAreRecorded() {
        SureMendings x = Made.of("0=a1>1,0=b2>2,1=c");
        String before = Made.told(x);
        for (int what = -1; what < 13; what++) {
            x.row(0, what);
            x.key(0, what);
            x.value('a', what);
            x.way(0, 1, what);
            x.sum(what);
            x.bestMended(0, 1, what);
            x.count(what);
        }
        x.kept(1, 0);
        x.keep();
        due.same("what tells changes nothing", Made.told(x), before);
    }
}
