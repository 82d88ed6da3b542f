/** Promises 1, 2 and 4 to 7: a new object, and the acts on its rows. */
public final class RowsTest {
    private static final int UNKNOWN = SureMendings.UNKNOWN;
    private static final int BAD_VALUE = SureMendings.BAD_VALUE;
    private static final int FULL = SureMendings.FULL;
    private static final int NONE = SureMendings.NONE;
    private static final Due due = new Due();

    public static void main(String[] args) {
        newObject();
        add();
        addRefused();
        addFull();
        remove();
        mend();
        mendUnderPreference();
        mendAll();
        mendAllUnderPreference();
        prefer();
        due.finish();
    }

    private static void newObject() {
        SureMendings x = new SureMendings();
        int[] counts = {0, 0, 0, 1, 0, 0, 0, 0, 0, 0, 0, 0};
        for (int what = 0; what < counts.length; what++) {
            due.is("new: count(" + what + ")", x.count(what), counts[what]);
        }
        due.is("new: undo", x.undo(), NONE);
        due.is("new: restore", x.restore(), NONE);
        due.is("new: clearText", x.clearText(), 0);
        due.is("new: the one mending keeps nothing", x.kept(0, 0), NONE);
        due.is("new: no second mending", x.kept(1, 0), BAD_VALUE);
        due.is("new: prefer(false)", x.prefer(false), NONE);
        SureMendings other = Made.of("1=a");
        due.is("objects share nothing", x.count(0) + 10 * other.count(0), 10);
    }

    private static void add() {
        SureMendings x = new SureMendings();
        due.is("add, all the least", x.add(0, 'a', 0, 0), 0);
        due.is("add, all the greatest", x.add(9, 'h', 99, 9), 1);
        due.is("add, to none", x.add(5, 'd', 50, NONE), 2);
        due.is("add, a like row", x.add(5, 'd', 50, NONE), 3);
        due.same("rows in their order", Made.rows(x), "0=a>0,9=h99>9,5=d50,5=d50");
        due.is("each add is an act", x.count(10), 4);
        due.is("undo of an add", x.undo(), 3);
        due.same("undone", Made.rows(x), "0=a>0,9=h99>9,5=d50");
    }

    private static void addRefused() {
        SureMendings x = Made.of("1=a");
        String before = Made.told(x);
        for (int key : new int[] {-1, 10, NONE, Integer.MIN_VALUE, Integer.MAX_VALUE}) {
            due.is("add, key " + key, x.add(key, 'a', 0, 0), UNKNOWN);
            due.is("add, key ahead of value and weight, " + key, x.add(key, 'z', 100, 0), UNKNOWN);
        }
        for (int to : new int[] {-1, 10, -2, -4, -6, Integer.MIN_VALUE, Integer.MAX_VALUE}) {
            due.is("add, to " + to, x.add(0, 'a', 0, to), UNKNOWN);
            due.is("add, to ahead of value and weight, " + to, x.add(0, 'z', -1, to), UNKNOWN);
        }
        for (char value : new char[] {'`', 'i', 'A', 'H', '0', 0, 65535, (char) ('a' + 256)}) {
            due.is("add, value " + (int) value, x.add(0, value, 0, 0), BAD_VALUE);
        }
        for (int weight : new int[] {-1, 100, NONE, Integer.MIN_VALUE, Integer.MAX_VALUE}) {
            due.is("add, weight " + weight, x.add(0, 'a', weight, 0), BAD_VALUE);
        }
        due.same("refused adds change nothing", Made.told(x), before);
    }

    private static void addFull() {
        SureMendings x = Made.full();
        due.is("twenty rows", x.count(0), 20);
        String before = Made.told(x);
        due.is("a 21st row", x.add(0, 'a', 0, 0), FULL);
        due.is("key ahead of full", x.add(10, 'a', 0, 0), UNKNOWN);
        due.is("to ahead of full", x.add(0, 'a', 0, 10), UNKNOWN);
        due.is("value ahead of full", x.add(0, 'i', 0, 0), BAD_VALUE);
        due.is("weight ahead of full", x.add(0, 'a', 100, 0), BAD_VALUE);
        due.same("full changes nothing", Made.told(x), before);
        due.is("remove one of twenty", x.remove(19), 19);
        due.is("and there is room again", x.add(3, 'a', 0, 0), 19);
    }

    private static void remove() {
        SureMendings x = Made.of("0=a1>1,1=b2>2,2=c3,3=d4>0");
        due.is("remove in the middle", x.remove(1), 3);
        due.same("those behind move up", Made.rows(x), "0=a1>1,2=c3,3=d4>0");
        String before = Made.told(x);
        for (int row : new int[] {-1, 3, 20, NONE, Integer.MIN_VALUE, Integer.MAX_VALUE}) {
            due.is("remove(" + row + ")", x.remove(row), UNKNOWN);
        }
        due.same("refused removes change nothing", Made.told(x), before);
        due.is("remove the last", x.remove(2), 2);
        due.is("remove the first", x.remove(0), 1);
        due.same("one is left", Made.rows(x), "2=c3");
        due.is("remove the only one", x.remove(0), 0);
        due.is("nothing to remove", x.remove(0), UNKNOWN);
        due.is("undo of a remove", x.undo(), 3);
        due.same("it is there again", Made.rows(x), "2=c3");
    }

    private static void mend() {
        SureMendings x = Made.of("4=a1,0=b,4=c2,1=d,4=e3,4=c2");
        due.is("mend by a middle row", x.mend(2), 3);
        due.same("only this one of its key is left", Made.rows(x), "0=b,4=c2,1=d");
        String before = Made.told(x);
        due.is("no other row", x.mend(1), NONE);
        due.is("no such row", x.mend(3), UNKNOWN);
        due.is("a row below 0", x.mend(-1), UNKNOWN);
        due.same("NONE and UNKNOWN change nothing", Made.told(x), before);
        x.undo();
        due.same("undo of mend", Made.rows(x), "4=a1,0=b,4=c2,1=d,4=e3,4=c2");
        due.is("mend by the first", x.mend(0), 3);
        due.same("the first is left", Made.rows(x), "4=a1,0=b,1=d");
        x.undo();
        due.is("mend by the last of like rows", x.mend(5), 3);
        due.same("the last is left", Made.rows(x), "0=b,1=d,4=c2");
        due.is("mend is one act", x.undo(), 3);
    }

    private static void mendUnderPreference() {
        SureMendings x = Made.of("4=a1,4=b2");
        x.prefer(true);
        due.is("mend by a row that cannot be kept", x.mend(0), 1);
        due.same("it is left", Made.rows(x), "4=a1");
        due.is("the preference stays", x.count(9), 1);
        due.is("it can be kept now", x.row(0, 4), 1);
    }

    private static void mendAll() {
        String rows = "7=a3,2=b1>7,7=c9,2=d1>2,7=e9,5=f";
        String[] left = {"7=a3,2=b1>7,5=f", "2=d1>2,7=e9,5=f", "2=b1>7,7=c9,5=f"};
        for (int rule = 0; rule < 3; rule++) {
            SureMendings x = Made.of(rows);
            due.is("mendAll(" + rule + ")", x.mendAll(rule), 3);
            due.same("left by mendAll(" + rule + ")", Made.rows(x), left[rule]);
            String before = Made.told(x);
            due.is("no key is doubled", x.mendAll(rule), NONE);
            due.is("bad rule ahead of NONE", x.mendAll(3), BAD_VALUE);
            due.same("NONE changes nothing", Made.told(x), before);
            due.is("mendAll is one act", x.undo(), 3);
            due.same("undo of mendAll", Made.rows(x), rows);
        }
        SureMendings x = Made.of(rows);
        for (int rule : new int[] {-1, 3, NONE, Integer.MIN_VALUE, Integer.MAX_VALUE}) {
            due.is("mendAll(" + rule + ")", x.mendAll(rule), BAD_VALUE);
        }
        due.same("bad rules change nothing", Made.rows(x), rows);
        due.is("mendAll without rows", new SureMendings().mendAll(0), NONE);
        SureMendings all = Made.full();
        due.is("mendAll of ten doubled keys", all.mendAll(1), 10);
        due.is("one row a key", all.count(0) * 100 + all.count(1) * 10 + all.count(2), 1100);
        due.is("the last ones", all.row(0, 2), 10);
        all.undo();
        due.is("mendAll by the first ones", all.mendAll(0), 10);
        due.is("the last of the first ones", all.row(9, 2), 9);
    }

    private static void mendAllUnderPreference() {
        SureMendings x = Made.of("7=a3,7=c9,7=e4");
        x.prefer(true);
        due.is("the rules take all rows of a key", x.mendAll(0), 2);
        due.same("the first one is left", Made.rows(x), "7=a3");
    }

    private static void prefer() {
        SureMendings x = Made.of("0=a5,0=b7,0=c7,1=a,1=b,2=h3");
        due.is("mendings at first", x.count(3), 6);
        due.is("prefer(true)", x.prefer(true), 4);
        String before = Made.told(x);
        due.is("prefer(true) again", x.prefer(true), NONE);
        due.same("NONE changes nothing", Made.told(x), before);
        due.is("the preference is on", x.count(9), 1);
        due.is("a lighter one cannot be kept", x.row(0, 4), 0);
        due.is("prefer(false)", x.prefer(false), 6);
        due.is("prefer(false) again", x.prefer(false), NONE);
        due.is("prefer is an act", x.undo(), 3);
        due.is("undone: it is on again", x.count(9), 1);
        due.is("and counts", x.count(3), 4);
        due.is("prefer without rows", new SureMendings().prefer(true), 1);
    }
}
