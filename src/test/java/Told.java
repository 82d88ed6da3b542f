/** What an object answers to all numbers of what that a call of it knows. */
final class Told {
    private Told() {
    }

    static int[] row(SureMendings x, int row) {
        int[] told = new int[6];
        for (int what = 0; what < told.length; what++) {
            told[what] = x.row(row, what);
        }
        return told;
    }

    static int[] key(SureMendings x, int key) {
        int[] told = new int[5];
        for (int what = 0; what < told.length; what++) {
            told[what] = x.key(key, what);
        }
        return told;
    }

    static int[] value(SureMendings x, char value) {
        int[] told = new int[5];
        for (int what = 0; what < told.length; what++) {
            told[what] = x.value(value, what);
        }
        return told;
    }

    static int[] way(SureMendings x, int from, int to) {
        int[] told = new int[5];
        for (int what = 0; what < told.length; what++) {
            told[what] = x.way(from, to, what);
        }
        return told;
    }

    static int[] sum(SureMendings x) {
        int[] told = new int[4];
        for (int what = 0; what < told.length; what++) {
            told[what] = x.sum(what);
        }
        return told;
    }

    /** The key that is best mended, and the row. */
    static int[] bestMended(SureMendings x, int from, int to) {
        return new int[] {x.bestMended(from, to, 0), x.bestMended(from, to, 1)};
    }

    static int[] count(SureMendings x) {
        int[] told = new int[12];
        for (int what = 0; what < told.length; what++) {
            told[what] = x.count(what);
        }
        return told;
    }

    /** For each key the row that the mending keeps. */
    static int[] kept(SureMendings x, int mending) {
        int[] told = new int[10];
        for (int key = 0; key < told.length; key++) {
            told[key] = x.kept(mending, key);
        }
        return told;
    }
}
