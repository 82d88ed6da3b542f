/** The edges that the document names of values, ways and what is best mended (promises 15, 16, 19, and 20 of them). */
public final class AnswersEdgesTest {
    private static final int UNKNOWN = SureMendings.UNKNOWN;
    private static final int BAD_VALUE = SureMendings.BAD_VALUE;
    private static final int NONE = SureMendings.NONE;
    private static final String LINE = "0=a>1,1=a>2,2=a>3,3=a>4,4=a>5,5=a>6,6=a>7,7=a>8,8=a>9,9=a";
    private static final Due due = new Due();

    public static void main(String[] args) {
        valueIsThereIfAnyKeptRowHasIt();
        valueSureInAllMendings();
        valuePossibleInAtLeastOne();
        valueFewestAndMost();
        valueWithoutRows();
        valueWhats();
        wayOfAKeyToItself();
        wayByPointers();
        wayRoundWithoutComing();
        wayNeedsItsKeys();
        waySureAndPossible();
        wayLowestMendingWithout();
        wayFewestPointers();
        wayWhats();
        bestMendedTheLowestDoubledKey();
        bestMendedTheFirstRow();
        bestMendedRowsThatCanBeKept();
        bestMendedNoneIfSure();
        bestMendedNoneIfNoKeyDoesIt();
        bestMendedWhats();
        countedValues();
        countedWays();
        due.finish();
    }

    /** "a value is there, if any row that is kept has it" */
    private static void valueIsThereIfAnyKeptRowHasIt() {
        SureMendings x = Made.of("0=a,0=b,5=a,5=c,9=d");
        due.all("in either of two keys", Told.value(x, 'a'), 0, 1, 3, 0, 2);
        due.all("in one of two rows", Told.value(x, 'b'), 0, 1, 2, 0, 1);
        due.all("in a row that is always kept", Told.value(x, 'd'), 1, 1, 4, 1, 1);
        due.all("in no row", Told.value(x, 'e'), 0, 0, 0, 0, 0);
        x.prefer(true);
        due.all("all rows may be kept", Told.value(x, 'a'), 0, 1, 3, 0, 2);
        x.add(0, 'b', 1, NONE);
        due.all("in a row that cannot be kept, and one that can", Told.value(x, 'a'), 0, 1, 1, 0, 1);
        x.add(5, 'c', 1, NONE);
        due.all("in rows that cannot be kept alone", Told.value(x, 'a'), 0, 0, 0, 0, 0);
    }

    /** "An answer is sure if it holds in all mendings" */
    private static void valueSureInAllMendings() {
        due.all("all but one of four", Told.value(Made.of("0=a,0=b,1=a,1=b"), 'a'), 0, 1, 3, 0, 2);
        due.all("all by all rows of one key", Told.value(Made.of("0=a,0=a,1=a,1=b"), 'a'), 1, 1, 4, 1, 2);
        SureMendings most = Made.full();
        due.all("all but 2 to the 7th of 1024, by 3 keys", Told.value(most, 'a'), 0, 1, 1024 - 128, 0, 3);
        due.all("all but 2 to the 8th of 1024, by 2 keys", Told.value(most, 'e'), 0, 1, 1024 - 256, 0, 2);
        due.all("the highest value", Told.value(Made.of("9=h,9=h"), 'h'), 1, 1, 2, 1, 1);
    }

    /** "and possible if it holds in at least one" */
    private static void valuePossibleInAtLeastOne() {
        due.all("in one of three", Told.value(Made.of("4=b,4=c,4=h"), 'h'), 0, 1, 1, 0, 1);
        due.all("in none of three", Told.value(Made.of("4=b,4=c,4=h"), 'g'), 0, 0, 0, 0, 0);
        due.all("in the only one", Told.value(Made.of("4=b"), 'b'), 1, 1, 1, 1, 1);
        due.all("in none of one", Told.value(Made.of("4=b"), 'a'), 0, 0, 0, 0, 0);
    }

    /** value 3 and 4: "the fewest rows with it that are kept in a mending", "the most". */
    private static void valueFewestAndMost() {
        SureMendings x = Made.of("0=c,0=c,0=c,1=c,2=c,2=d,3=d,3=e");
        due.all("one of each key at most", Told.value(x, 'c'), 1, 1, 12, 2, 3);
        due.all("never sure, at most two", Told.value(x, 'd'), 0, 1, 9, 0, 2);
        SureMendings all = new SureMendings();
        for (int row = 0; row < 20; row++) {
            all.add(row % 10, 'g', row, NONE);
        }
        due.all("ten of twenty", Told.value(all, 'g'), 1, 1, 1024, 10, 10);
    }

    private static void valueWithoutRows() {
        for (char value = 'a'; value <= 'h'; value++) {
            due.all("value " + value + " without rows", Told.value(new SureMendings(), value), 0, 0, 0, 0, 0);
        }
    }

    private static void valueWhats() {
        SureMendings x = Made.of("0=a");
        for (int what : Made.outside(0, 4)) {
            due.is("value('a', " + what + ")", x.value('a', what), BAD_VALUE);
            due.is("value('i', " + what + ")", x.value('i', what), BAD_VALUE);
            due.is("value('a', " + what + ") without rows", new SureMendings().value('a', what), BAD_VALUE);
        }
        for (char value : Made.noValues()) {
            for (int what = 0; what < 5; what++) {
                due.is("value, character " + (int) value + ", " + what, x.value(value, what), BAD_VALUE);
            }
        }
    }

    /** "a way goes from a key to another key, if both are the same key, and it is there" */
    private static void wayOfAKeyToItself() {
        SureMendings x = Made.of("0=a,1=b>1,2=c>9,3=d>4,4=e>3,9=f,9=g>0");
        for (int key : new int[] {0, 1, 2, 3, 4, 9}) {
            due.all("of " + key + " to itself", Told.way(x, key, key), 1, 1, 2, NONE, 0);
        }
        SureMendings pointed = Made.of("0=a>5,0=b>5");
        due.all("of one that is only pointed to", Told.way(pointed, 5, 5), 0, 0, 0, 0, NONE);
        due.all("without rows", Told.way(new SureMendings(), 5, 5), 0, 0, 0, 0, NONE);
    }

    /** "or if the key's row that is kept points to a key from which a way goes to the other one" */
    private static void wayByPointers() {
        SureMendings line = Made.of(LINE);
        for (int to = 0; to < 10; to++) {
            due.all("from 0 to " + to, Told.way(line, 0, to), 1, 1, 1, NONE, to);
        }
        for (int from = 1; from < 10; from++) {
            due.all("not back from " + from, Told.way(line, from, 0), 0, 0, 0, 0, NONE);
        }
        line.add(9, 'b', 0, 0);
        due.all("the longest one round", Told.way(line, 5, 4), 0, 1, 1, 0, 9);
        line.prefer(true);
        due.all("both are as heavy", Told.way(line, 5, 4), 0, 1, 1, 0, 9);
        due.is("the row that cannot be kept", line.add(9, 'c', 1, NONE), 11);
        due.all("does not point", Told.way(line, 5, 4), 0, 0, 0, 0, NONE);
    }

    /** "a way that goes round without coming there is none" */
    private static void wayRoundWithoutComing() {
        SureMendings itself = Made.of("4=a>4,5=b");
        due.all("round by one key", Told.way(itself, 4, 5), 0, 0, 0, 0, NONE);
        SureMendings nine = Made.of("0=a>1,1=a>2,2=a>3,3=a>4,4=a>5,5=a>6,6=a>7,7=a>8,8=a>0,9=a>0");
        due.all("round by nine keys", Told.way(nine, 0, 9), 0, 0, 0, 0, NONE);
        due.all("into the round", Told.way(nine, 9, 8), 1, 1, 1, NONE, 9);
        SureMendings some = Made.of("0=a>1,1=a>0,1=b>2,2=c");
        due.all("round in one of two", Told.way(some, 0, 2), 0, 1, 1, 0, 2);
        SureMendings both = Made.of("0=a>1,0=b>2,1=a>0,1=b>3,2=c>3,3=d");
        due.all("round in the first of four", Told.way(both, 0, 3), 0, 1, 3, 0, 2);
        due.all("a key keeps one row, however often it is met", Told.way(both, 1, 2), 0, 1, 1, 0, 2);
    }

    /** "Keys that are not there have no row; no way goes from them or to them." */
    private static void wayNeedsItsKeys() {
        SureMendings x = Made.of("1=a>5,2=b>1");
        due.all("to one that is pointed to", Told.way(x, 1, 5), 0, 0, 0, 0, NONE);
        due.all("to one further on", Told.way(x, 2, 5), 0, 0, 0, 0, NONE);
        due.all("from one that is not there", Told.way(x, 5, 1), 0, 0, 0, 0, NONE);
        due.all("between two that are not there", Told.way(x, 0, 9), 0, 0, 0, 0, NONE);
        x.add(5, 'c', 0, 2);
        due.all("once it is there", Told.way(x, 1, 5), 1, 1, 1, NONE, 1);
        due.all("through it", Told.way(x, 1, 2), 1, 1, 1, NONE, 2);
        x.remove(2);
        due.all("no more through it", Told.way(x, 1, 2), 0, 0, 0, 0, NONE);
        due.all("a row that points to none", Told.way(Made.of("0=a,1=a"), 0, 1), 0, 0, 0, 0, NONE);
    }

    /** way 0 to 2: sure in all, possible in at least one, "in how many mendings it holds". */
    private static void waySureAndPossible() {
        due.all("in all of two", Told.way(Made.of("0=a>1,0=b>1,1=c"), 0, 1), 1, 1, 2, NONE, 1);
        due.all("in one of two", Told.way(Made.of("0=a>1,0=b,1=c"), 0, 1), 0, 1, 1, 1, 1);
        due.all("in none of two", Told.way(Made.of("0=a,0=b,1=c>0"), 0, 1), 0, 0, 0, 0, NONE);
        due.all("in all but one of four", Told.way(Made.of("0=a>2,0=b>1,1=c>2,1=d,2=e"), 0, 2), 0, 1, 3, 3, 1);
        due.all("in all, by ways that differ", Told.way(Made.of("0=a>1,0=b>2,1=c>3,2=d>3,3=e"), 0, 3), 1, 1, 2, NONE, 2);
        SureMendings most = new SureMendings();
        for (int row = 0; row < 20; row++) {
            most.add(row % 7, 'a', row, (row + 1) % 7);
        }
        due.all("in all of the most", Told.way(most, 0, 6), 1, 1, 1458, NONE, 6);
        most.remove(19);
        most.add(5, 'a', 0, NONE);
        due.all("in two of three of them", Told.way(most, 0, 6), 0, 1, 972, 2 * 243, 6);
    }

    /** way 3: "the lowest mending in which it does not hold (NONE if it is sure)". */
    private static void wayLowestMendingWithout() {
        due.is("the first", Made.of("0=a,0=b>1,1=c").way(0, 1, 3), 0);
        due.is("the last of three", Made.of("0=a>1,0=b>1,0=c,1=d").way(0, 1, 3), 2);
        due.is("the lowest of several", Made.of("0=a>1,0=b,0=c,1=d,1=e").way(0, 1, 3), 1);
        due.is("by the higher key", Made.of("0=a>9,0=b>9,3=c,3=d,9=e>5,9=f,5=g").way(0, 5, 3), 4);
        due.is("none if it is sure", Made.of("0=a>1,1=b").way(0, 1, 3), NONE);
        due.is("none for a key and itself", Made.of("0=a,0=b").way(0, 0, 3), NONE);
        due.is("the first if a key is not there", new SureMendings().way(0, 0, 3), 0);
    }

    /** way 4: "the fewest pointers that are followed along it in any mending (0 ...; NONE ...)". */
    private static void wayFewestPointers() {
        due.is("one in the last mending", Made.of("0=a>1,0=b>2,0=c>3,1=d>2,2=e>3,3=f").way(0, 3, 4), 1);
        due.is("two in one of them", Made.of("0=a>1,0=b>2,1=d>2,2=e>3,3=f").way(0, 3, 4), 2);
        due.is("three in the only one", Made.of("0=a>1,1=d>2,2=e>3,3=f").way(0, 3, 4), 3);
        due.is("nine", Made.of(LINE).way(0, 9, 4), 9);
        due.is("none for both the same", Made.of("6=a>6").way(6, 6, 4), 0);
        due.is("not possible", Made.of("0=a,1=b").way(0, 1, 4), NONE);
        SureMendings x = Made.of("0=a>2,0=b9>1,1=c>2,2=d");
        due.is("by the lighter row", x.way(0, 2, 4), 1);
        x.prefer(true);
        due.is("it cannot be kept", x.way(0, 2, 4), 2);
    }

    private static void wayWhats() {
        SureMendings x = Made.of("0=a>1,1=b");
        for (int what : Made.outside(0, 4)) {
            due.is("way(0, 1, " + what + ")", x.way(0, 1, what), BAD_VALUE);
            due.is("way(1, 0, " + what + ")", x.way(1, 0, what), BAD_VALUE);
            due.is("way(0, 10, " + what + ")", x.way(0, 10, what), UNKNOWN);
            due.is("way(-1, 0, " + what + ")", x.way(-1, 0, what), UNKNOWN);
        }
        for (int key : Made.outside(0, 9)) {
            for (int what = 0; what < 5; what++) {
                due.is("way(" + key + ", 0, " + what + ")", x.way(key, 0, what), UNKNOWN);
                due.is("way(0, " + key + ", " + what + ")", x.way(0, key, what), UNKNOWN);
            }
        }
    }

    /** bestMended: "the lowest doubled key such that the way is sure as soon as it is mended". */
    private static void bestMendedTheLowestDoubledKey() {
        SureMendings lower = Made.of("7=a>1,7=b>4,1=c,4=d>9,4=e>9,9=f,1=g>9");
        due.all("the lower of two that do it", Told.bestMended(lower, 7, 9), 1, 6);
        SureMendings one = Made.of("9=a,2=b,2=c>5,5=d,5=e>9,8=f>2,8=g>9");
        due.all("the only one that does it", Told.bestMended(one, 8, 9), 8, 6);
        due.all("the key at the start", Told.bestMended(Made.of("9=a,9=b>0,0=c"), 9, 0), 9, 1);
        due.all("key 0", Told.bestMended(Made.of("9=a>0,0=b,0=c>1,1=d"), 9, 1), 0, 2);
        SureMendings full = new SureMendings();
        for (int row = 0; row < 19; row++) {
            full.add(3, 'a', row, NONE);
        }
        full.add(4, 'b', 0, NONE);
        full.remove(0);
        full.add(3, 'c', 0, 4);
        due.all("the last of twenty rows", Told.bestMended(full, 3, 4), 3, 19);
        due.all("a doubled key off the way does nothing", Told.bestMended(Made.of("0=a,0=b,1=c,1=d>2,2=e"), 1, 2), 1, 3);
    }

    /** bestMended: "by one of its rows ... (the first of these)". */
    private static void bestMendedTheFirstRow() {
        SureMendings x = Made.of("1=h,5=a,5=b>1,5=c>1,5=d");
        due.all("the first that does it", Told.bestMended(x, 5, 1), 5, 2);
        due.all("not one that only might", Told.bestMended(Made.of("0=a>1,0=b>2,1=c>2,1=d,2=e"), 0, 2), 0, 1);
        due.is("the way is not sure", x.way(5, 1, 0), 0);
        x.mend(x.bestMended(5, 1, 1));
        due.is("mended by that row it is", x.way(5, 1, 0), 1);
    }

    /** bestMended: "one of its rows that can be kept". */
    private static void bestMendedRowsThatCanBeKept() {
        SureMendings x = Made.of("0=a1>1,0=b9,0=c9>1,1=d");
        due.all("a lighter one without the preference", Told.bestMended(x, 0, 1), 0, 0);
        x.prefer(true);
        due.all("only the heaviest ones with it", Told.bestMended(x, 0, 1), 0, 2);
        x.remove(2);
        due.all("the lighter one is not taken", Told.bestMended(x, 0, 1), NONE, NONE);
        x.remove(1);
        due.all("it is the only one: the way is sure", Told.bestMended(x, 0, 1), NONE, NONE);
    }

    /** bestMended: "NONE if the way is sure". */
    private static void bestMendedNoneIfSure() {
        SureMendings x = Made.of("0=a>1,0=b>1,1=c,1=d");
        due.all("by both rows", Told.bestMended(x, 0, 1), NONE, NONE);
        due.all("to itself", Told.bestMended(x, 1, 1), NONE, NONE);
    }

    /** bestMended: "or no key does that". */
    private static void bestMendedNoneIfNoKeyDoesIt() {
        due.all("two keys that must both be mended", Told.bestMended(Made.of("0=a>1,0=b,1=c>2,1=d,2=e"), 0, 2), NONE, NONE);
        due.all("no key is doubled", Told.bestMended(Made.of("0=a,1=b"), 0, 1), NONE, NONE);
        due.all("the way is not possible", Told.bestMended(Made.of("0=a,0=b,1=c,1=d"), 0, 1), NONE, NONE);
        due.all("to a key that is not there", Told.bestMended(Made.of("0=a>1,0=b"), 0, 1), NONE, NONE);
        due.all("from a key that is not there", Told.bestMended(Made.of("0=a>1,0=b"), 1, 0), NONE, NONE);
        due.all("of a key that is not there to itself", Told.bestMended(Made.of("0=a>1,0=b"), 1, 1), NONE, NONE);
        due.all("without rows", Told.bestMended(new SureMendings(), 9, 0), NONE, NONE);
    }

    private static void bestMendedWhats() {
        SureMendings x = Made.of("0=a,0=b>1,1=c");
        due.all("the key and the row", Told.bestMended(x, 0, 1), 0, 1);
        for (int what : Made.outside(0, 1)) {
            due.is("bestMended(0, 1, " + what + ")", x.bestMended(0, 1, what), BAD_VALUE);
            due.is("of a way that is sure, " + what, x.bestMended(0, 0, what), BAD_VALUE);
            due.is("of a way that is not possible, " + what, x.bestMended(1, 0, what), BAD_VALUE);
            due.is("bestMended(10, 1, " + what + ")", x.bestMended(10, 1, what), UNKNOWN);
            due.is("bestMended(0, -1, " + what + ")", x.bestMended(0, -1, what), UNKNOWN);
        }
        for (int key : Made.outside(0, 9)) {
            for (int what = 0; what < 2; what++) {
                due.is("bestMended(" + key + ", 1, " + what + ")", x.bestMended(key, 1, what), UNKNOWN);
                due.is("bestMended(0, " + key + ", " + what + ")", x.bestMended(0, key, what), UNKNOWN);
            }
        }
    }

    /** count 5 and 6: "values that are sure", "values that are possible". */
    private static void countedValues() {
        SureMendings x = Made.of("0=a,0=h,1=a,1=b");
        due.all("none sure, three possible", new int[] {x.count(5), x.count(6)}, 0, 3);
        x.add(2, 'h', 0, NONE);
        due.all("the highest one is sure", new int[] {x.count(5), x.count(6)}, 1, 3);
        x.add(3, 'a', 0, NONE);
        due.all("the lowest one too", new int[] {x.count(5), x.count(6)}, 2, 3);
        SureMendings all = Made.of("0=a,1=b,2=c,3=d,4=e,5=f,6=g,7=h");
        due.all("all of them", new int[] {all.count(5), all.count(6)}, 8, 8);
    }

    /** count 7 and 8: ways "that are sure (pairs of keys, also a key and itself)", "ways that are possible". */
    private static void countedWays() {
        SureMendings x = Made.of("0=a>9,0=b,9=c");
        due.all("two to themselves, one that is possible", new int[] {x.count(7), x.count(8)}, 2, 3);
        x.prefer(true);
        x.add(0, 'd', 1, 9);
        due.all("it is sure", new int[] {x.count(7), x.count(8)}, 3, 3);
        SureMendings line = Made.of(LINE);
        due.all("of a line of ten", new int[] {line.count(7), line.count(8)}, 55, 55);
        line.add(9, 'b', 0, 0);
        due.all("of a line that may be round", new int[] {line.count(7), line.count(8)}, 55, 100);
        line.mend(10);
        due.all("of a round of ten", new int[] {line.count(7), line.count(8)}, 100, 100);
        SureMendings apart = Made.of("0=a>0,1=b>8,9=c");
        due.all("keys that are not there have none", new int[] {apart.count(7), apart.count(8)}, 3, 3);
    }
}
