import java.util.function.Supplier;

/** The order in which errors are checked, and that a call which returns an error or NONE changes nothing. */
public final class ErrorsEdgesTest {
    private static final int UNKNOWN = SureMendings.UNKNOWN;
    private static final int BAD_VALUE = SureMendings.BAD_VALUE;
    private static final int FULL = SureMendings.FULL;
    private static final int NONE = SureMendings.NONE;
    private static final Due due = new Due();

    private interface Call {
        int on(SureMendings x);
    }

    public static void main(String[] args) {
        orderOfAdd();
        orderOfReadRows();
        orderOfMendAndMendAll();
        orderOfWhatIsTold();
        refusedChangeNothing("a new object", SureMendings::new);
        refusedChangeNothing("an object in use", ErrorsEdgesTest::inUse);
        refusedChangeNothing("twenty rows", ErrorsEdgesTest::twentyRows);
        onlyHereRefused();
        due.finish();
    }

    /** add: "UNKNOWN (key or to); BAD_VALUE; FULL if there are 20." */
    private static void orderOfAdd() {
        SureMendings x = Made.full();
        int[] keys = {0, 10};
        char[] values = {'a', 'i'};
        int[] weights = {99, 100};
        int[] targets = {NONE, -1};
        for (int wrong = 0; wrong < 16; wrong++) {
            int got = x.add(keys[wrong & 1], values[wrong >> 1 & 1], weights[wrong >> 2 & 1], targets[wrong >> 3]);
            boolean unknown = (wrong & 1) != 0 || wrong >> 3 != 0;
            due.is("add to twenty rows, wrong " + wrong, got, unknown ? UNKNOWN : wrong == 0 ? FULL : BAD_VALUE);
            SureMendings room = new SureMendings();
            int made = room.add(keys[wrong & 1], values[wrong >> 1 & 1], weights[wrong >> 2 & 1], targets[wrong >> 3]);
            due.is("add with room, wrong " + wrong, made, unknown ? UNKNOWN : wrong == 0 ? 0 : BAD_VALUE);
        }
    }

    /** readRows: the fault of the text, then FULL. */
    private static void orderOfReadRows() {
        SureMendings x = Made.full();
        due.is("no text, no room", x.readRows(), -100);
        Made.type(x, "0=a");
        due.is("no fault, no room", x.readRows(), FULL);
        x.type(',');
        due.is("a fault, no room", x.readRows(), -104);
        x.remove(0);
        due.is("a fault, and room", x.readRows(), -104);
        Made.type(x, "0=a");
        due.is("no fault, room for one of two", x.readRows(), FULL);
        x.remove(0);
        due.is("no fault, room for two", x.readRows(), 20);
    }

    /** mend: "UNKNOWN; NONE"; mendAll: "BAD_VALUE; NONE". */
    private static void orderOfMendAndMendAll() {
        SureMendings x = Made.of("0=a,1=b");
        due.is("mend of a row that is not there", x.mend(2), UNKNOWN);
        due.is("mend of a row that is alone", x.mend(1), NONE);
        due.is("mendAll by no rule, no key doubled", x.mendAll(3), BAD_VALUE);
        due.is("mendAll by a rule, no key doubled", x.mendAll(2), NONE);
        due.is("mendAll by no rule, without rows", new SureMendings().mendAll(-1), BAD_VALUE);
    }

    /** "the order of the @return line is the order of the checks"; "NONE ... is returned only if no error applies" */
    private static void orderOfWhatIsTold() {
        SureMendings x = Made.of("0=a>1,0=b");
        due.is("row: UNKNOWN, then BAD_VALUE", x.row(2, 6), UNKNOWN);
        due.is("row: BAD_VALUE", x.row(0, 6), BAD_VALUE);
        due.is("row: NONE", x.row(1, 3), NONE);
        due.is("key: UNKNOWN, then BAD_VALUE", x.key(10, 5), UNKNOWN);
        due.is("key: BAD_VALUE, then NONE", x.key(9, 5), BAD_VALUE);
        due.is("key: NONE", x.key(9, 2), NONE);
        due.is("way: UNKNOWN by from, then BAD_VALUE", x.way(10, 9, 5), UNKNOWN);
        due.is("way: UNKNOWN by to, then BAD_VALUE", x.way(9, 10, 5), UNKNOWN);
        due.is("way: BAD_VALUE, then NONE", x.way(9, 9, 5), BAD_VALUE);
        due.is("way: NONE", x.way(9, 9, 4), NONE);
        due.is("kept: UNKNOWN, then BAD_VALUE", x.kept(2, 10), UNKNOWN);
        due.is("kept: BAD_VALUE, then NONE", x.kept(2, 9), BAD_VALUE);
        due.is("kept: NONE", x.kept(1, 9), NONE);
        due.is("bestMended: UNKNOWN by from, then BAD_VALUE", x.bestMended(10, 9, 2), UNKNOWN);
        due.is("bestMended: UNKNOWN by to, then BAD_VALUE", x.bestMended(9, 10, 2), UNKNOWN);
        due.is("bestMended: BAD_VALUE, then NONE", x.bestMended(9, 9, 2), BAD_VALUE);
        due.is("bestMended: NONE", x.bestMended(9, 9, 1), NONE);
    }

    /** Rows, the preference, four states, a snapshot of another state and a text. */
    private static SureMendings inUse() {
        SureMendings x = Made.of("0=a5>1,0=b7>2");
        x.keep();
        x.add(1, 'c', 0, NONE);
        x.prefer(true);
        x.add(2, 'd', 9, 0);
        x.remove(0);
        x.add(0, 'b', 3, NONE);
        Made.type(x, "7=g70>8");
        return x;
    }

    /** As many rows as there may be, with a snapshot of few. */
    private static SureMendings twentyRows() {
        SureMendings x = Made.of("3=c3>4");
        x.keep();
        for (int row = 1; row < 20; row++) {
            x.add(4, 'd', row, row % 10);
        }
        Made.type(x, "7=g70>8");
        return x;
    }

    private static void refusedChangeNothing(String name, Supplier<SureMendings> made) {
        int rows = made.get().count(0);
        refused(name + ", add key below", made, x -> x.add(-1, 'a', 0, 0), UNKNOWN);
        refused(name + ", add key above", made, x -> x.add(10, 'a', 0, 0), UNKNOWN);
        refused(name + ", add to below", made, x -> x.add(0, 'a', 0, -1), UNKNOWN);
        refused(name + ", add to above", made, x -> x.add(0, 'a', 0, 10), UNKNOWN);
        refused(name + ", add value below", made, x -> x.add(0, '`', 0, 0), BAD_VALUE);
        refused(name + ", add value above", made, x -> x.add(0, 'i', 0, 0), BAD_VALUE);
        refused(name + ", add weight below", made, x -> x.add(0, 'a', -1, 0), BAD_VALUE);
        refused(name + ", add weight above", made, x -> x.add(0, 'a', 100, 0), BAD_VALUE);
        refused(name + ", remove below", made, x -> x.remove(-1), UNKNOWN);
        refused(name + ", remove above", made, x -> x.remove(rows), UNKNOWN);
        refused(name + ", mend below", made, x -> x.mend(-1), UNKNOWN);
        refused(name + ", mend above", made, x -> x.mend(rows), UNKNOWN);
        refused(name + ", mendAll below", made, x -> x.mendAll(-1), BAD_VALUE);
        refused(name + ", mendAll above", made, x -> x.mendAll(3), BAD_VALUE);
        boolean on = made.get().count(9) == 1;
        refused(name + ", prefer what is so", made, x -> x.prefer(on), NONE);
        refused(name + ", row", made, x -> x.row(rows, 0), UNKNOWN);
        refused(name + ", key", made, x -> x.key(10, 0), UNKNOWN);
        refused(name + ", key what", made, x -> x.key(0, 5), BAD_VALUE);
        refused(name + ", value", made, x -> x.value('i', 0), BAD_VALUE);
        refused(name + ", value what", made, x -> x.value('a', 5), BAD_VALUE);
        refused(name + ", way", made, x -> x.way(0, 10, 0), UNKNOWN);
        refused(name + ", way what", made, x -> x.way(0, 0, 5), BAD_VALUE);
        refused(name + ", way NONE", made, x -> x.way(9, 9, 4), NONE);
        refused(name + ", kept", made, x -> x.kept(0, 10), UNKNOWN);
        refused(name + ", kept mending", made, x -> x.kept(-1, 0), BAD_VALUE);
        refused(name + ", kept NONE", made, x -> x.kept(0, 9), NONE);
        refused(name + ", sum", made, x -> x.sum(4), BAD_VALUE);
        refused(name + ", bestMended", made, x -> x.bestMended(-1, 0, 0), UNKNOWN);
        refused(name + ", bestMended what", made, x -> x.bestMended(0, 0, 2), BAD_VALUE);
        refused(name + ", bestMended NONE", made, x -> x.bestMended(9, 0, 0), NONE);
        refused(name + ", count", made, x -> x.count(12), BAD_VALUE);
    }

    /** Calls that are refused, or answer NONE, only in a state of their own. */
    private static void onlyHereRefused() {
        refused("add to twenty rows", ErrorsEdgesTest::twentyRows, x -> x.add(0, 'a', 0, 0), FULL);
        refused("read to twenty rows", ErrorsEdgesTest::twentyRows, SureMendings::readRows, FULL);
        refused("read no text", SureMendings::new, SureMendings::readRows, -100);
        refused("read a fault", () -> typed(inUse(), ",8=h,"), SureMendings::readRows, -112);
        refused("read a fault in the second row", () -> typed(inUse(), ",8=i"), SureMendings::readRows, -110);
        refused("read more than there is room for", () -> typed(nineteenRows(), ",8=h"), SureMendings::readRows, FULL);
        refused("mend a row that is alone", ErrorsEdgesTest::inUse, x -> x.mend(1), NONE);
        refused("mend a row that is alone, of twenty", ErrorsEdgesTest::twentyRows, x -> x.mend(0), NONE);
        for (int rule = 0; rule < 3; rule++) {
            int each = rule;
            refused("mend all without rows", SureMendings::new, x -> x.mendAll(each), NONE);
            refused("mend all of keys that are alone", ErrorsEdgesTest::noneDoubled, x -> x.mendAll(each), NONE);
        }
        refused("prefer what is not so", SureMendings::new, x -> x.prefer(false), NONE);
        refused("undo at first", SureMendings::new, SureMendings::undo, NONE);
        refused("undo of an empty history", ErrorsEdgesTest::withoutHistory, SureMendings::undo, NONE);
        refused("restore at first", SureMendings::new, SureMendings::restore, NONE);
        refused("restore no snapshot", ErrorsEdgesTest::noneDoubled, SureMendings::restore, NONE);
        refused("type behind 80 characters", () -> typed(inUse(), ",0=a>1".repeat(12) + "2"), x -> x.type('2'), FULL);
        refused("row what", ErrorsEdgesTest::inUse, x -> x.row(0, 6), BAD_VALUE);
    }

    private static SureMendings typed(SureMendings x, String text) {
        Made.type(x, text);
        return x;
    }

    private static SureMendings nineteenRows() {
        SureMendings x = twentyRows();
        x.remove(7);
        return x;
    }

    /** A row of each of five keys, four states and no snapshot. */
    private static SureMendings noneDoubled() {
        return Made.of("0=a1>1,2=b2>2,4=c3>3,6=d4>4,8=e5>5");
    }

    /** Rows and a snapshot, but no state in the history. */
    private static SureMendings withoutHistory() {
        SureMendings x = Made.of("0=a1>1,2=b2>2,4=c3>3,6=d4>4,8=e5>5,8=f6");
        x.keep();
        for (int left = 4; left > 0; left--) {
            x.undo();
        }
        return x;
    }

    /** The call answers so, once and again, and the object is as one without the call. */
    private static void refused(String name, Supplier<SureMendings> made, Call call, int answer) {
        SureMendings x = made.get();
        due.is(name, call.on(x), answer);
        due.is(name + ", again", call.on(x), answer);
        due.same(name + ", and the object then", Made.whole(x), Made.whole(made.get()));
    }
}
