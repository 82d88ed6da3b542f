/** Promises 13 to 20: what is told. */
public final class ToldTest {
    private static final int UNKNOWN = SureMendings.UNKNOWN;
    private static final int BAD_VALUE = SureMendings.BAD_VALUE;
    private static final int NONE = SureMendings.NONE;
    private static final int[] FAR = {Integer.MIN_VALUE, -100, NONE, -1, 12, 99, Integer.MAX_VALUE};
    private static final Due due = new Due();

    public static void main(String[] args) {
        row();
        rowUnderPreference();
        key();
        keyUnderPreference();
        value();
        valueEdges();
        way();
        wayRoundAndAbsent();
        wayUnderPreference();
        kept();
        sum();
        bestMended();
        bestMendedEdges();
        count();
        mostMendings();
        due.finish();
    }

    private static void row() {
        SureMendings x = Made.of("9=h99>0,3=a,9=b7>9");
        due.all("the first row", Told.row(x, 0), 9, 'h', 99, 0, 1, 0);
        due.all("a row that is alone", Told.row(x, 1), 3, 'a', 0, NONE, 1, 1);
        due.all("the last row", Told.row(x, 2), 9, 'b', 7, 9, 1, 0);
        for (int far : FAR) {
            due.is("row(" + far + ", 0)", x.row(far, 0), UNKNOWN);
            due.is("row ahead of what, " + far, x.row(far, 9), UNKNOWN);
            due.is("row(0, " + far + ")", x.row(0, far), BAD_VALUE);
        }
        due.is("row(3, 0)", x.row(3, 0), UNKNOWN);
        due.is("row(0, 6)", x.row(0, 6), BAD_VALUE);
    }

    private static void rowUnderPreference() {
        SureMendings x = Made.of("1=a5,1=b6,2=a5,2=b5,3=c");
        x.prefer(true);
        due.all("a lighter one", Told.row(x, 0), 1, 'a', 5, NONE, 0, 0);
        due.all("the only heaviest one", Told.row(x, 1), 1, 'b', 6, NONE, 1, 1);
        due.all("one of two heaviest", Told.row(x, 2), 2, 'a', 5, NONE, 1, 0);
        due.all("the other", Told.row(x, 3), 2, 'b', 5, NONE, 1, 0);
        due.all("the only one of its key", Told.row(x, 4), 3, 'c', 0, NONE, 1, 1);
    }

    private static void key() {
        SureMendings x = Made.of("1=a5>2,1=b3>1,1=c3>7,1=d9>2,1=e9,0=a>2");
        due.all("a key of five rows", Told.key(x, 1), 5, 5, 1, 3, 1);
        due.is("row 0 as the lightest, of several the first", Made.of("3=a4,3=b4,3=c6").key(3, 2), 0);
        due.is("row 0 as the heaviest, of several the first", Made.of("3=a6,3=b6,3=c4").key(3, 3), 0);
        due.all("a key of one row", Told.key(x, 0), 1, 1, 5, 5, 0);
        due.all("a key that is not there", Told.key(x, 2), 0, 0, NONE, NONE, 3);
        due.all("one more that is not there", Told.key(x, 7), 0, 0, NONE, NONE, 1);
        for (int far : FAR) {
            due.is("key(" + far + ", 0)", x.key(far, 0), UNKNOWN);
            due.is("key ahead of what, " + far, x.key(far, 9), UNKNOWN);
            due.is("key(2, " + far + ")", x.key(2, far), BAD_VALUE);
        }
        due.is("key(10, 0)", x.key(10, 0), UNKNOWN);
        due.is("key(0, 5)", x.key(0, 5), BAD_VALUE);
    }

    private static void keyUnderPreference() {
        SureMendings x = Made.of("1=a5>2,1=b3>1,1=c3>7,1=d9>2,1=e9,0=a>2");
        x.prefer(true);
        due.all("all its rows, but two that can be kept", Told.key(x, 1), 5, 2, 1, 3, 1);
    }

    private static void value() {
        SureMendings x = Made.of("0=a,0=b,1=a,1=a,2=c,2=a,2=d");
        due.all("a", Told.value(x, 'a'), 1, 1, 12, 1, 3);
        due.all("b", Told.value(x, 'b'), 0, 1, 6, 0, 1);
        due.all("c", Told.value(x, 'c'), 0, 1, 4, 0, 1);
        due.all("h", Told.value(x, 'h'), 0, 0, 0, 0, 0);
        SureMendings y = Made.of("0=a,0=b,2=c,2=a,2=d");
        due.all("a is not sure by two keys that may fail", Told.value(y, 'a'), 0, 1, 4, 0, 2);
        for (int far : FAR) {
            due.is("value('a', " + far + ")", x.value('a', far), BAD_VALUE);
        }
        due.is("value('a', 5)", x.value('a', 5), BAD_VALUE);
        for (char value : new char[] {'`', 'i', 'A', '0', 0, 65535, (char) ('a' + 256)}) {
            due.is("value " + (int) value, x.value(value, 0), BAD_VALUE);
        }
    }

    private static void valueEdges() {
        due.all("without rows", Told.value(new SureMendings(), 'a'), 0, 0, 0, 0, 0);
        SureMendings x = Made.of("0=a1,0=b2,1=b,1=c");
        x.prefer(true);
        due.all("a lighter row's value is not possible", Told.value(x, 'a'), 0, 0, 0, 0, 0);
        due.all("the heaviest one's is sure", Told.value(x, 'b'), 1, 1, 2, 1, 2);
        SureMendings y = Made.full();
        due.all("with twenty rows", Told.value(y, 'a'), 0, 1, 1024 - 128, 0, 3);
    }

    private static void way() {
        SureMendings x = Made.of("0=a>1,0=a>2,1=a>2,2=a,2=a>0");
        due.all("by either pointer", Told.way(x, 0, 2), 1, 1, 4, NONE, 1);
        due.all("by one of the pointers", Told.way(x, 0, 1), 0, 1, 2, 1, 1);
        due.all("two pointers, both doubled", Told.way(x, 2, 1), 0, 1, 1, 0, 2);
        due.all("by one and another", Told.way(x, 1, 0), 0, 1, 2, 0, 2);
        due.all("to itself", Told.way(x, 1, 1), 1, 1, 4, NONE, 0);
        for (int far : FAR) {
            due.is("way(" + far + ", 0, 0)", x.way(far, 0, 0), UNKNOWN);
            due.is("way(0, " + far + ", 0)", x.way(0, far, 0), UNKNOWN);
            due.is("keys ahead of what, " + far, x.way(0, far, 9), UNKNOWN);
            due.is("way(0, 0, " + far + ")", x.way(0, 0, far), BAD_VALUE);
        }
        due.is("way(10, 0, 0)", x.way(10, 0, 0), UNKNOWN);
        due.is("way(0, 10, 0)", x.way(0, 10, 0), UNKNOWN);
        due.is("way(0, 0, 5)", x.way(0, 0, 5), BAD_VALUE);
    }

    private static void wayRoundAndAbsent() {
        SureMendings round = Made.of("0=a>1,1=a>0,2=a>2,3=a>8");
        due.all("round without coming there", Told.way(round, 0, 2), 0, 0, 0, 0, NONE);
        due.all("one to itself does not come on", Told.way(round, 2, 0), 0, 0, 0, 0, NONE);
        due.all("no way to a key that is not there", Told.way(round, 3, 8), 0, 0, 0, 0, NONE);
        due.all("no way from a key that is not there", Told.way(round, 8, 3), 0, 0, 0, 0, NONE);
        due.all("not to itself if it is not there", Told.way(round, 8, 8), 0, 0, 0, 0, NONE);
        SureMendings through = Made.of("0=a>8,8=a>1,1=a");
        due.is("through a key that is there", through.way(0, 1, 4), 2);
        through.remove(1);
        due.is("and no more when it is gone", through.way(0, 1, 4), NONE);
        SureMendings line = Made.of("0=a>1,1=a>2,2=a>3,3=a>4,4=a>5,5=a>6,6=a>7,7=a>8,8=a>9,9=a");
        due.all("through all ten keys", Told.way(line, 0, 9), 1, 1, 1, NONE, 9);
        due.all("not back", Told.way(line, 9, 0), 0, 0, 0, 0, NONE);
        due.all("without rows", Told.way(new SureMendings(), 0, 0), 0, 0, 0, 0, NONE);
        SureMendings choice = Made.of("0=a>1,0=b>2,1=a>0,1=b>2,2=a");
        due.all("round in one of four", Told.way(choice, 0, 2), 0, 1, 3, 0, 1);
        SureMendings one = Made.of("0=a>1,1=a>0,1=a>2,2=a>0,2=a>1,2=a>3,3=a");
        due.all("one choice all along", Told.way(one, 0, 3), 0, 1, 1, 0, 3);
        due.all("the lowest key's choice tells first", Told.way(Made.of("0=a>1,0=a,1=a>2,1=a,2=a"), 0, 2), 0, 1, 1, 1, 2);
    }

    private static void wayUnderPreference() {
        SureMendings x = Made.of("0=a9>1,0=a8,1=a");
        due.all("without the preference", Told.way(x, 0, 1), 0, 1, 1, 1, 1);
        x.prefer(true);
        due.all("with it", Told.way(x, 0, 1), 1, 1, 1, NONE, 1);
        SureMendings y = Made.of("0=a8>1,0=a9,1=a");
        y.prefer(true);
        due.all("lost by it", Told.way(y, 0, 1), 0, 0, 0, 0, NONE);
    }

    private static void kept() {
        SureMendings x = Made.of("5=a,2=a,5=b,2=b,5=c,8=d");
        int[] two = {1, 3, 1, 3, 1, 3};
        int[] five = {0, 0, 2, 2, 4, 4};
        for (int mending = 0; mending < 6; mending++) {
            due.is("kept(" + mending + ", 2)", x.kept(mending, 2), two[mending]);
            due.is("kept(" + mending + ", 5)", x.kept(mending, 5), five[mending]);
            due.is("kept(" + mending + ", 8)", x.kept(mending, 8), 5);
            due.is("kept(" + mending + ", 0)", x.kept(mending, 0), NONE);
        }
        for (int mending : new int[] {-1, 6, 7, 1000, Integer.MIN_VALUE, Integer.MAX_VALUE}) {
            due.is("kept(" + mending + ", 2)", x.kept(mending, 2), BAD_VALUE);
            due.is("no such mending ahead of NONE", x.kept(mending, 0), BAD_VALUE);
            due.is("key ahead of mending", x.kept(mending, 10), UNKNOWN);
        }
        for (int far : FAR) {
            due.is("kept(0, " + far + ")", x.kept(0, far), UNKNOWN);
        }
        SureMendings y = Made.of("1=a3,1=b7,1=c7,1=d2");
        y.prefer(true);
        due.is("the first heaviest", y.kept(0, 1), 1);
        due.is("the second heaviest", y.kept(1, 1), 2);
        due.is("no third", y.kept(2, 1), BAD_VALUE);
    }

    private static void sum() {
        SureMendings x = Made.of("5=a4,2=a9,5=b1,2=b3,5=c1,2=c9,8=d7");
        due.is("the least", x.sum(0), 1 + 3 + 7);
        due.is("the greatest", x.sum(1), 4 + 9 + 7);
        due.is("the lowest mending with the least", x.sum(2), 1 + 3 * 1);
        due.is("the lowest mending with the greatest", x.sum(3), 0);
        SureMendings y = Made.of("0=a1,0=a2,0=a1,1=b5,1=b5,1=b6,1=b6");
        due.is("least of alike", y.sum(2), 0);
        due.is("greatest of alike", y.sum(3), 1 + 3 * 2);
        y.prefer(true);
        due.is("with the preference all are the greatest", y.sum(0), 8);
        due.is("greatest with it", y.sum(1), 8);
        due.is("its lowest", y.sum(2) + y.sum(3), 0);
        for (int far : FAR) {
            due.is("sum(" + far + ")", x.sum(far), BAD_VALUE);
        }
        due.is("sum(4)", x.sum(4), BAD_VALUE);
        for (int what = 0; what < 4; what++) {
            due.is("sum without rows", new SureMendings().sum(what), 0);
        }
        SureMendings heavy = new SureMendings();
        for (int key = 0; key < 10; key++) {
            heavy.add(key, 'a', 99, NONE);
        }
        due.is("the greatest sum there is", heavy.sum(1), 990);
    }

    private static void bestMended() {
        SureMendings x = Made.of("0=a>1,0=b>2,1=a,1=b>3,2=a,2=b>3,3=a");
        due.is("no one key alone does it", x.bestMended(0, 3, 0), NONE);
        due.is("no row either", x.bestMended(0, 3, 1), NONE);
        SureMendings y = Made.of("3=a,0=a>1,0=b>2,1=a,1=b>3,2=a>3");
        due.is("the lowest key", y.bestMended(0, 3, 0), 0);
        due.is("by its second row", y.bestMended(0, 3, 1), 2);
        SureMendings z = Made.of("3=a,0=a>1,0=b>1,1=a,1=b>3,1=c>3");
        due.is("the key further on", z.bestMended(0, 3, 0), 1);
        due.is("by the first that does it", z.bestMended(0, 3, 1), 4);
        due.is("a way that is sure", z.bestMended(0, 1, 0), NONE);
        due.is("a way that is not possible", z.bestMended(3, 0, 0), NONE);
        due.is("a key and itself", z.bestMended(1, 1, 1), NONE);
        for (int far : FAR) {
            due.is("bestMended(" + far + ", 0, 0)", z.bestMended(far, 0, 0), UNKNOWN);
            due.is("bestMended(0, " + far + ", 0)", z.bestMended(0, far, 0), UNKNOWN);
            due.is("keys ahead of what, " + far, z.bestMended(far, 0, 9), UNKNOWN);
            due.is("bestMended(0, 3, " + far + ")", z.bestMended(0, 3, far), BAD_VALUE);
            due.is("what ahead of NONE, " + far, z.bestMended(3, 0, far), BAD_VALUE);
        }
        due.is("bestMended(10, 0, 0)", z.bestMended(10, 0, 0), UNKNOWN);
        due.is("bestMended(0, 3, 2)", z.bestMended(0, 3, 2), BAD_VALUE);
        String before = Made.told(z);
        z.bestMended(0, 3, 0);
        due.same("nothing is mended by it", Made.told(z), before);
        due.is("and no answer is changed by it", z.way(0, 3, 2), 4);
    }

    private static void bestMendedEdges() {
        due.is("without rows", new SureMendings().bestMended(0, 0, 0), NONE);
        SureMendings x = Made.of("0=a9,0=b5>1,0=c9>1,1=a");
        due.is("without the preference the lighter row", x.bestMended(0, 1, 1), 1);
        x.prefer(true);
        due.is("with it only one that can be kept", x.bestMended(0, 1, 1), 2);
        SureMendings y = Made.of("0=a9,0=b5>1,1=a");
        y.prefer(true);
        due.is("none that can be kept does it", y.bestMended(0, 1, 0), NONE);
        SureMendings z = Made.of("0=a>5,5=a>1,5=b,7=a,7=b,1=a");
        due.is("other doubled keys do not matter", z.bestMended(0, 1, 0), 5);
        due.is("a way to a key that is not there", z.bestMended(0, 9, 0), NONE);
        due.is("a way from a key that is not there", z.bestMended(9, 0, 0), NONE);
    }

    private static void count() {
        SureMendings x = Made.of("0=a5>1,0=b7>2,1=a>2,2=c9,4=d1,4=d1");
        Made.type(x, "xyz");
        // sure ways: four keys to themselves, 0-2, 1-2; possible ones: 0-1 too
        due.all("count", Told.count(x), 6, 4, 2, 4, 2, 3, 4, 6, 7, 0, 4, 3);
        x.prefer(true);
        due.is("mendings with the preference", x.count(3), 2);
        due.is("sure rows with it", x.count(4), 3);
        due.is("sure values with it", x.count(5), 4);
        due.is("possible values with it", x.count(6), 4);
        due.is("sure ways with it", x.count(7), 6);
        due.is("possible ways with it", x.count(8), 6);
        due.is("it is on", x.count(9), 1);
        due.is("doubled keys stay doubled", x.count(2), 2);
        for (int far : FAR) {
            due.is("count(" + far + ")", x.count(far), BAD_VALUE);
        }
        SureMendings all = Made.of("0=a>1,1=b>2,2=c>3,3=d>4,4=e>5,5=f>6,6=g>7,7=h>8,8=a>9,9=a>0");
        due.is("all ways are sure", all.count(7), 100);
        due.is("all ways are possible", all.count(8), 100);
        due.is("all values are sure", all.count(5), 8);
        due.is("all values are possible", all.count(6), 8);
        due.is("all rows are sure", all.count(4), 10);
    }

    private static void mostMendings() {
        SureMendings x = new SureMendings();
        for (int row = 0; row < 20; row++) {
            x.add(row % 7, 'a', row, (row + 1) % 7);
        }
        due.is("the most mendings that twenty rows can have", x.count(3), 1458);
        due.is("the last one", x.kept(1457, 5), 19);
        due.is("no other", x.kept(1458, 5), BAD_VALUE);
        due.is("a way in all of them", x.way(0, 6, 2), 1458);
        due.is("the heaviest is the last", x.sum(3), 1457);
        x.add(0, 'a', 0, 0);
        due.is("the table was not full of keys, but of rows", x.count(0), 20);
    }
}
