/** The edges that the document names of the history and the snapshot (promises 10 to 12), a test a sentence. */
public final class HistoryEdgesTest {
    private static final int NONE = SureMendings.NONE;
    private static final String START = "4=d4>4,4=e,4=d4>4,4=e,4=d4>4,4=e,1=a";
    private static final Act[] ACTS = {
        new Act("add", x -> x.add(2, 'c', 3, 4), 7),
        new Act("readRows", SureMendings::readRows, 9),
        new Act("remove", x -> x.remove(0), 6),
        new Act("mend", x -> x.mend(1), 5),
        new Act("mendAll", x -> x.mendAll(1), 5),
        new Act("prefer", x -> x.prefer(true), 3),
        new Act("restore", SureMendings::restore, 3),
    };
    private static final Due due = new Due();

    private interface Call {
        int on(SureMendings x);
    }

    /** A call that changes the object of start(), and what it answers there. */
    private record Act(String name, Call call, int answer) {
    }

    public static void main(String[] args) {
        fourStatesAtMost();
        theOldestIsDropped();
        undoRestoresTheLatest();
        undoNoneIfTheHistoryIsEmpty();
        eachActIsRecorded();
        eachActDropsTheOldest();
        whatIsNoActIsNotRecorded();
        restoreNoneWithoutSnapshot();
        oneSnapshotInPlaceOfTheOneThatWas();
        theSnapshotStays();
        restoreIsAnAct();
        theStateIsAllButTextHistoryAndSnapshot();
        statesOfAFullTable();
        due.finish();
    }

    /** "A history of at most 4 states is kept" */
    private static void fourStatesAtMost() {
        SureMendings x = new SureMendings();
        due.is("states at first", x.count(10), 0);
        for (int acts = 1; acts <= 20; acts++) {
            x.add(0, 'a', acts, NONE);
            due.is("states after " + acts + " acts", x.count(10), Math.min(acts, 4));
        }
    }

    /** "when one more is recorded, the oldest one is dropped" */
    private static void theOldestIsDropped() {
        for (int acts = 0; acts <= 13; acts++) {
            SureMendings x = new SureMendings();
            for (int act = 0; act < acts; act++) {
                x.add(0, 'a', act, NONE);
            }
            for (int undone = 1; undone <= Math.min(acts, 4); undone++) {
                due.is("undo " + undone + " of " + acts, x.undo(), Math.min(acts, 4) - undone);
                due.is("rows then", x.count(0), acts - undone);
            }
            due.is("undo of " + acts + " once more", x.undo(), NONE);
            due.is("rows at last", x.count(0), Math.max(0, acts - 4));
        }
    }

    /** "undo() removes and restores the latest one" */
    private static void undoRestoresTheLatest() {
        SureMendings x = Made.of("1=a1>1,2=b2");
        x.prefer(true);
        x.remove(0);
        due.is("undo of a remove", x.undo(), 3);
        due.same("the state then", Made.told(x), "1=a1>1,2=b2 preference 1 history 3 text 0");
        due.is("undo of a preference", x.undo(), 2);
        due.same("the state then", Made.told(x), "1=a1>1,2=b2 preference 0 history 2 text 0");
        x.add(3, 'c', 3, NONE);
        due.is("a new act behind it", x.count(10), 3);
        due.is("undo of the new act", x.undo(), 2);
        due.same("what was undone does not come again", Made.told(x), "1=a1>1,2=b2 preference 0 history 2 text 0");
    }

    /** undo: "NONE if the history is empty". */
    private static void undoNoneIfTheHistoryIsEmpty() {
        SureMendings x = new SureMendings();
        due.is("at first", x.undo(), NONE);
        x.add(0, 'a', 0, NONE);
        due.is("one state", x.undo(), 0);
        due.is("none is left", x.undo(), NONE);
        due.is("none, asked again", x.undo(), NONE);
        due.is("no states", x.count(10), 0);
        x.add(0, 'b', 0, NONE);
        due.is("a state after all", x.undo(), 0);
    }

    /** Seven rows, a snapshot of the last three, a text, and an empty history. */
    private static SureMendings start() {
        SureMendings x = Made.of(START);
        for (int removed = 0; removed < 4; removed++) {
            x.remove(0);
        }
        x.keep();
        for (int undone = 0; undone < 4; undone++) {
            x.undo();
        }
        Made.type(x, "0=a,1=b");
        return x;
    }

    /** "Each call of a method that is described as an act ... records the state that was before it." */
    private static void eachActIsRecorded() {
        for (Act act : ACTS) {
            SureMendings x = start();
            due.same("before " + act.name, Made.told(x), START + " preference 0 history 0 text 7");
            due.is(act.name, act.call.on(x), act.answer);
            due.is("states after " + act.name, x.count(10), 1);
            due.is("undo of " + act.name, x.undo(), 0);
            due.same("after undo of " + act.name, Made.told(x), START + " preference 0 history 0 text 7");
        }
    }

    private static void eachActDropsTheOldest() {
        for (Act act : ACTS) {
            SureMendings x = start();
            for (int states = 1; states <= 4; states++) {
                x.add(9, 'h', states, NONE);
            }
            due.is("states before " + act.name, x.count(10), 4);
            due.is(act.name + " answers no error", act.call.on(x) >= 0 ? 1 : 0, 1);
            due.is("states after " + act.name, x.count(10), 4);
            for (int left = 3; left >= 0; left--) {
                due.is("undo", x.undo(), left);
                due.is("rows then", x.count(0), 8 + left);
            }
            due.is("the state of seven rows was dropped", x.undo(), NONE);
        }
    }

    /** What is not described as an act records nothing: undo, keep, type, clearText, and what tells. */
    private static void whatIsNoActIsNotRecorded() {
        Call[] calls = {SureMendings::keep, SureMendings::clearText, x -> x.type('5'), x -> x.row(0, 5), x -> x.key(4, 3),
            x -> x.value('d', 2), x -> x.way(4, 4, 3), x -> x.kept(1, 4), x -> x.sum(3), x -> x.bestMended(4, 4, 1),
            x -> x.count(8)};
        for (int call = 0; call < calls.length; call++) {
            SureMendings x = start();
            calls[call].on(x);
            due.is("states after call " + call, x.count(10), 0);
            x.add(9, 'a', 0, NONE);
            calls[call].on(x);
            due.is("states after an act and call " + call, x.count(10), 1);
            due.is("undo of the act", x.undo(), 0);
            due.same("the state before it", Made.rows(x), START);
        }
        SureMendings undone = Made.of("0=a,1=b");
        undone.undo();
        due.is("undo takes a state and records none", undone.count(10), 1);
    }

    /** "There is one snapshot, empty at first"; restore: "NONE if there is no snapshot". */
    private static void restoreNoneWithoutSnapshot() {
        SureMendings x = Made.of("0=a");
        due.is("no snapshot", x.restore(), NONE);
        due.same("nothing is restored", Made.told(x), "0=a preference 0 history 1 text 0");
        x.undo();
        due.is("undo makes none", x.restore(), NONE);
        due.is("keep without rows", x.keep(), 0);
        due.is("a snapshot without rows is one", x.restore(), 0);
    }

    /** keep: "in place of the one that was". */
    private static void oneSnapshotInPlaceOfTheOneThatWas() {
        SureMendings x = Made.of("0=a,1=b");
        due.is("keep two rows", x.keep(), 2);
        x.remove(0);
        due.is("keep one row", x.keep(), 1);
        x.add(2, 'c', 2, NONE);
        due.is("the later one is restored", x.restore(), 1);
        due.same("its row", Made.rows(x), "1=b");
        x.undo();
        x.undo();
        x.undo();
        due.is("it is no part of the history", x.restore(), 1);
        due.same("its row still", Made.rows(x), "1=b");
        x.remove(0);
        due.is("keep none", x.keep(), 0);
        x.add(2, 'c', 2, NONE);
        due.is("none are restored", x.restore(), 0);
    }

    /** restore: "Restores the state of the snapshot, which stays." */
    private static void theSnapshotStays() {
        SureMendings x = Made.of("0=a1>2,0=b3");
        x.prefer(true);
        x.keep();
        for (int time = 0; time < 5; time++) {
            x.mendAll(0);
            x.prefer(false);
            x.add(9, 'h', time, NONE);
            due.is("restore", x.restore(), 2);
            due.same("rows, preference and states", Made.told(x), "0=a1>2,0=b3 preference 1 history 4 text 0");
        }
    }

    /** restore: "This is an act", also when it changes nothing. */
    private static void restoreIsAnAct() {
        SureMendings x = new SureMendings();
        x.keep();
        for (int states = 1; states <= 5; states++) {
            due.is("restore the same", x.restore(), 0);
            due.is("states then", x.count(10), Math.min(states, 4));
        }
        SureMendings other = Made.of("0=a");
        other.keep();
        other.prefer(true);
        other.add(1, 'b', 0, NONE);
        due.is("restore", other.restore(), 1);
        due.is("the preference that was kept", other.count(9), 0);
        due.is("undo of restore", other.undo(), 3);
        due.same("the state before it", Made.told(other), "0=a,1=b preference 1 history 3 text 0");
    }

    /** "A state is everything but the text, the history and the snapshot." */
    private static void theStateIsAllButTextHistoryAndSnapshot() {
        SureMendings x = new SureMendings();
        Made.type(x, "1=a");
        x.readRows();
        x.keep();
        Made.type(x, "5>6");
        x.readRows();
        due.is("undo", x.undo(), 1);
        due.is("undo leaves the text's length", x.count(11), 6);
        due.is("and its characters", x.readRows(), 2);
        due.same("as they are read", Made.rows(x), "1=a,1=a5>6");
        due.is("undo leaves the snapshot", x.restore(), 1);
        due.is("restore leaves the history but for its own state", x.count(10), 3);
        due.is("restore leaves the text", x.readRows(), 2);
        x.clearText();
        due.is("undo after clearText", x.undo(), 3);
        due.is("does not bring the text again", x.count(11), 0);
        due.is("restore does not either", x.restore(), 1);
        due.is("the text is empty", x.readRows(), -100);
    }

    private static void statesOfAFullTable() {
        SureMendings x = Made.full();
        due.is("keep twenty rows", x.keep(), 20);
        String rows = Made.rows(x);
        x.mendAll(0);
        due.is("restore twenty rows", x.restore(), 20);
        due.same("all of them", Made.rows(x), rows);
        due.is("undo of restore", x.undo(), 3);
        due.is("rows of the state before it", x.count(0), 10);
        due.is("undo of mendAll", x.undo(), 2);
        due.same("all twenty again", Made.rows(x), rows);
        due.is("and it is full", x.add(0, 'a', 0, NONE), SureMendings.FULL);
    }
}
