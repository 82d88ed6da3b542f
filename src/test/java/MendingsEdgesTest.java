/** The edges that the document names of mendings (promises 13, 14, 17, 18 and what 20 counts of them). */
public final class MendingsEdgesTest {
    private static final int UNKNOWN = SureMendings.UNKNOWN;
    private static final int BAD_VALUE = SureMendings.BAD_VALUE;
    private static final int NONE = SureMendings.NONE;
    private static final Due due = new Due();

    public static void main(String[] args) {
        oneRowOfEachKey();
        preferenceIsOffAtFirst();
        onlyTheGreatestWeightIsPreferred();
        moduloAndDivision();
        numberedByTheRowsThatCanBeKept();
        lastMending();
        noKeyNoChoice();
        mostMendings();
        keptNoneIfTheKeyIsNotThere();
        withoutRowsJustOneMending();
        rowCanBeKept();
        rowIsSure();
        rowWhats();
        keyLightestAndHeaviest();
        keyPointedTo();
        keyWhats();
        leastAndGreatestSums();
        lowestMendingOfSeveral();
        sumWhats();
        countsAndTheirEnds();
        due.finish();
    }

    /** "A mending keeps just one row of each key that is there." */
    private static void oneRowOfEachKey() {
        SureMendings x = Made.of("8=a,2=b,8=c,5=d");
        due.all("mending 0", Told.kept(x, 0), NONE, NONE, 1, NONE, NONE, 3, NONE, NONE, 0, NONE);
        due.all("mending 1", Told.kept(x, 1), NONE, NONE, 1, NONE, NONE, 3, NONE, NONE, 2, NONE);
        due.is("mendings", x.count(3), 2);
    }

    /** "With the preference (off at first) ..." */
    private static void preferenceIsOffAtFirst() {
        SureMendings x = Made.of("0=a1,0=b2");
        due.is("the preference", x.count(9), 0);
        due.is("mendings", x.count(3), 2);
        due.is("the lighter row can be kept", x.row(0, 4), 1);
        due.is("mending 0 keeps it", x.kept(0, 0), 0);
        x.prefer(true);
        due.is("mendings with it", x.count(3), 1);
        due.is("mending 0 keeps the heavier one", x.kept(0, 0), 1);
    }

    /** "those whose weight is the greatest of all rows with their key" */
    private static void onlyTheGreatestWeightIsPreferred() {
        SureMendings x = Made.of("3=a98,3=b99,3=c99,3=d97,4=e,4=f,5=g1,5=h,6=a50");
        x.prefer(true);
        int[] canBeKept = {0, 1, 1, 0, 1, 1, 1, 0, 1};
        for (int row = 0; row < canBeKept.length; row++) {
            due.is("row(" + row + ", 4)", x.row(row, 4), canBeKept[row]);
        }
        due.is("mendings", x.count(3), 2 * 2);
        due.is("another key's weight does not matter", Made.of("1=a1,2=a99,2=b98").row(0, 4), 1);
        x.remove(1);
        x.remove(1);
        due.is("the heaviest one once heavier ones are gone", x.row(0, 4), 1);
    }

    /** "keeps of the lowest key that is there the row m modulo n ..., and goes on to the next key with m / n" */
    private static void moduloAndDivision() {
        SureMendings x = Made.of("7=a,4=a,1=a,7=a,4=a,1=a,7=a,4=a,7=a");
        int[] ones = {2, 5};
        int[] fours = {1, 4, 7};
        int[] sevens = {0, 3, 6, 8};
        due.is("mendings", x.count(3), 24);
        for (int m = 0; m < 24; m++) {
            due.is("kept(" + m + ", 1)", x.kept(m, 1), ones[m % 2]);
            due.is("kept(" + m + ", 4)", x.kept(m, 4), fours[m / 2 % 3]);
            due.is("kept(" + m + ", 7)", x.kept(m, 7), sevens[m / 6]);
        }
        SureMendings ends = Made.of("9=a,0=a,9=b,0=b");
        due.all("keys 0 and 9, mending 1", new int[] {ends.kept(1, 0), ends.kept(1, 9)}, 3, 0);
        due.all("keys 0 and 9, mending 2", new int[] {ends.kept(2, 0), ends.kept(2, 9)}, 1, 2);
    }

    /** "of its n rows that can be kept (in their order, from 0)" */
    private static void numberedByTheRowsThatCanBeKept() {
        SureMendings x = Made.of("2=a1,2=b5,1=c4,2=d5,1=e3,2=f5,1=g4");
        x.prefer(true);
        int[] ones = {2, 6};
        int[] twos = {1, 3, 5};
        for (int m = 0; m < 6; m++) {
            due.is("kept(" + m + ", 1)", x.kept(m, 1), ones[m % 2]);
            due.is("kept(" + m + ", 2)", x.kept(m, 2), twos[m / 2]);
        }
        due.is("no mending 6", x.kept(6, 1), BAD_VALUE);
    }

    /** kept: "mending: 0 or more"; "BAD_VALUE if there is no such mending". */
    private static void lastMending() {
        SureMendings x = Made.of("0=a,0=b,0=c,1=a,1=b");
        due.is("the first", x.kept(0, 0), 0);
        due.is("the last", x.kept(5, 0), 2);
        for (int mending : Made.outside(0, 5)) {
            due.is("kept(" + mending + ", 0)", x.kept(mending, 0), BAD_VALUE);
        }
        SureMendings one = Made.of("0=a");
        due.is("the only one", one.kept(0, 0), 0);
        due.is("behind the only one", one.kept(1, 0), BAD_VALUE);
    }

    /** A key that is not there, or that has one row, leaves the other keys' numbers as they are. */
    private static void noKeyNoChoice() {
        SureMendings x = Made.of("0=a,5=a,5=b,9=a,9=b");
        due.is("the lower of the two", x.kept(1, 5), 2);
        due.is("the higher one is still at its first", x.kept(1, 9), 3);
        due.is("the higher one", x.kept(2, 9), 4);
        due.is("the lower one is back", x.kept(2, 5), 1);
        due.is("the one that is alone", x.kept(3, 0), 0);
    }

    private static void mostMendings() {
        due.is("ten keys doubled", Made.full().count(3), 1024);
        due.is("the last of them", Made.full().kept(1023, 9), 19);
        due.is("none behind it", Made.full().kept(1024, 9), BAD_VALUE);
        SureMendings x = new SureMendings();
        for (int row = 0; row < 20; row++) {
            x.add(row % 7 + 3, 'a', row, NONE);
        }
        due.is("six keys of three rows and one of two", x.count(3), 1458);
        due.is("the last of them", x.kept(1457, 9), 13);
        due.is("none behind it", x.kept(1458, 9), BAD_VALUE);
        SureMendings one = new SureMendings();
        for (int row = 0; row < 20; row++) {
            one.add(6, 'a', row, NONE);
        }
        due.is("one key of twenty rows", one.count(3), 20);
        due.is("its last", one.kept(19, 6), 19);
        due.is("none behind it", one.kept(20, 6), BAD_VALUE);
    }

    /** kept: "NONE if the key is not there". */
    private static void keptNoneIfTheKeyIsNotThere() {
        SureMendings x = Made.of("1=a>0,8=b>9");
        for (int key : new int[] {0, 2, 7, 9}) {
            due.is("kept(0, " + key + ")", x.kept(0, key), NONE);
            due.is("no such mending is ahead of it", x.kept(1, key), BAD_VALUE);
        }
    }

    /** "Without rows there is just one mending, which keeps nothing." */
    private static void withoutRowsJustOneMending() {
        SureMendings x = new SureMendings();
        due.is("mendings", x.count(3), 1);
        due.all("mending 0", Told.kept(x, 0), NONE, NONE, NONE, NONE, NONE, NONE, NONE, NONE, NONE, NONE);
        due.is("no mending 1", x.kept(1, 0), BAD_VALUE);
        due.all("its sum", Told.sum(x), 0, 0, 0, 0);
        due.is("with the preference too", x.prefer(true), 1);
        due.is("no mending 1 with it", x.kept(1, 0), BAD_VALUE);
        SureMendings emptied = Made.of("0=a,0=b");
        emptied.remove(0);
        emptied.remove(0);
        due.is("when all rows are removed", emptied.count(3), 1);
        due.is("which keeps nothing", emptied.kept(0, 0), NONE);
    }

    /** row 4: "whether it can be kept". */
    private static void rowCanBeKept() {
        SureMendings x = Made.of("0=a99,0=b,1=c");
        due.all("without the preference all can", new int[] {x.row(0, 4), x.row(1, 4), x.row(2, 4)}, 1, 1, 1);
        x.prefer(true);
        due.all("with it", new int[] {x.row(0, 4), x.row(1, 4), x.row(2, 4)}, 1, 0, 1);
        x.prefer(false);
        due.is("and again all", x.row(1, 4), 1);
    }

    /** row 5: "whether it is sure: kept in all mendings". */
    private static void rowIsSure() {
        SureMendings x = Made.of("0=a3,1=b3,1=b3,2=c3,2=c2");
        int[] sure = {1, 0, 0, 0, 0};
        int[] preferred = {1, 0, 0, 1, 0};
        for (int row = 0; row < sure.length; row++) {
            due.is("row(" + row + ", 5)", x.row(row, 5), sure[row]);
        }
        due.is("sure rows", x.count(4), 1);
        x.prefer(true);
        for (int row = 0; row < preferred.length; row++) {
            due.is("row(" + row + ", 5) with the preference", x.row(row, 5), preferred[row]);
        }
        due.is("sure rows with the preference", x.count(4), 2);
    }

    private static void rowWhats() {
        SureMendings x = Made.of("9=h99>9,0=a>0");
        due.all("all the greatest", Told.row(x, 0), 9, 'h', 99, 9, 1, 1);
        due.all("all the least", Told.row(x, 1), 0, 'a', 0, 0, 1, 1);
        for (int what : Made.outside(0, 5)) {
            due.is("row(0, " + what + ")", x.row(0, what), BAD_VALUE);
            due.is("row(2, " + what + ")", x.row(2, what), UNKNOWN);
        }
    }

    /** key 2 and 3: "its lightest one, of several the first"; "its heaviest one, likewise"; "NONE if it is not there". */
    private static void keyLightestAndHeaviest() {
        SureMendings x = Made.of("5=a,6=a7,6=a3,6=a8,6=a3,6=a8,6=a4");
        due.all("of several", Told.key(x, 6), 6, 6, 2, 3, 0);
        due.all("of one", Told.key(x, 5), 1, 1, 0, 0, 0);
        due.all("not there", Told.key(x, 4), 0, 0, NONE, NONE, 0);
        x.prefer(true);
        due.all("of all its rows, with the preference too", Told.key(x, 6), 6, 2, 2, 3, 0);
        due.all("all alike", Told.key(Made.of("0=b,9=a5,9=a5,9=a5"), 9), 3, 3, 1, 1, 0);
        due.all("the ends of the weights", Told.key(Made.of("9=a98,9=a99,9=a1,9=a"), 9), 4, 4, 3, 1, 0);
    }

    /** key 4: "how many rows point to it". */
    private static void keyPointedTo() {
        SureMendings x = new SureMendings();
        due.is("none without rows", x.key(9, 4), 0);
        for (int row = 0; row < 20; row++) {
            x.add(row / 2, 'a', row, 9);
            due.is("rows that point to 9", x.key(9, 4), row + 1);
        }
        due.is("none points to 0", x.key(0, 4), 0);
        x.prefer(true);
        due.is("those that cannot be kept too", x.key(9, 4), 20);
        SureMendings nowhere = Made.of("1=a,2=a>1,1=b>1");
        due.is("a row with that key may, one that points to none does not", nowhere.key(1, 4), 2);
        due.is("a key that is not there", Made.of("1=a>3").key(3, 4), 1);
    }

    private static void keyWhats() {
        SureMendings x = Made.full();
        due.all("key 0 of a full table", Told.key(x, 0), 2, 2, 0, 10, 2);
        due.all("key 9 of a full table", Told.key(x, 9), 2, 2, 9, 19, 2);
        for (int what : Made.outside(0, 4)) {
            due.is("key(0, " + what + ")", x.key(0, what), BAD_VALUE);
            due.is("key(10, " + what + ")", x.key(10, what), UNKNOWN);
            due.is("key(0, " + what + ") without rows", new SureMendings().key(0, what), BAD_VALUE);
        }
    }

    /** sum 0 and 1: "the least of all mendings", "the greatest". */
    private static void leastAndGreatestSums() {
        SureMendings x = Made.of("0=a,0=b99,9=c1,9=d98");
        due.all("of four", Told.sum(x), 1, 197, 0, 3);
        x.prefer(true);
        due.all("of the one that is left", Told.sum(x), 197, 197, 0, 0);
        due.all("of one row without weight", Told.sum(Made.of("4=a")), 0, 0, 0, 0);
        SureMendings heaviest = new SureMendings();
        for (int row = 0; row < 20; row++) {
            heaviest.add(row % 10, 'a', row < 10 ? 0 : 99, NONE);
        }
        due.all("the least and the greatest that there may be", Told.sum(heaviest), 0, 990, 0, 1023);
    }

    /** sum 2 and 3: "the lowest mending with the least", "the lowest one with the greatest". */
    private static void lowestMendingOfSeveral() {
        due.all("all alike", Told.sum(Made.of("1=a5,1=b5,2=a7,2=b7")), 12, 12, 0, 0);
        due.all("the ends later in each key", Told.sum(Made.of("1=a5,1=b4,1=c4,1=d6,1=e6,2=a2,2=b1,2=c1,2=d3,2=e3")),
            5, 9, 1 + 5, 3 + 5 * 3);
        due.all("the ends crossed", Told.sum(Made.of("3=a9,3=b1,7=a1,7=b9")), 2, 18, 1, 2);
    }

    private static void sumWhats() {
        SureMendings x = Made.of("0=a");
        for (int what : Made.outside(0, 3)) {
            due.is("sum(" + what + ")", x.sum(what), BAD_VALUE);
            due.is("sum(" + what + ") without rows", new SureMendings().sum(what), BAD_VALUE);
        }
    }

    private static void countsAndTheirEnds() {
        SureMendings x = Made.full();
        x.prefer(true);
        Made.type(x, "x".repeat(80));
        due.all("a full table, text and history", Told.count(x), 20, 10, 10, 1, 10, 8, 8, 100, 100, 1, 4, 80);
        for (int what : Made.outside(0, 11)) {
            due.is("count(" + what + ")", x.count(what), BAD_VALUE);
            due.is("count(" + what + ") of a new object", new SureMendings().count(what), BAD_VALUE);
        }
        due.all("nothing points anywhere", Told.count(Made.of("0=a,9=b,9=b")), 3, 2, 1, 2, 1, 2, 2, 2, 2, 0, 3, 0);
    }
}
