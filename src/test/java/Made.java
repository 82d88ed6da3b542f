/** Objects made for the tests, and what all questions answer about one. */
final class Made {
    static final int NONE = SureMendings.NONE;

    private Made() {
    }

    /** A new object with the rows, which are written as in a text of rows; they are put there by add. */
    static SureMendings of(String rows) {
        SureMendings x = new SureMendings();
        for (String row : rows.isEmpty() ? new String[0] : rows.split(",")) {
            int pointer = row.indexOf('>');
            int to = pointer < 0 ? NONE : row.charAt(pointer + 1) - '0';
            String head = pointer < 0 ? row : row.substring(0, pointer);
            int weight = head.length() > 3 ? Integer.parseInt(head.substring(3)) : 0;
            x.add(head.charAt(0) - '0', head.charAt(2), weight, to);
        }
        return x;
    }

    /** Twenty rows, the most there may be: two of each key. */
    static SureMendings full() {
        SureMendings x = new SureMendings();
        for (int row = 0; row < 20; row++) {
            x.add(row % 10, (char) ('a' + row % 8), row, (row + 1) % 10);
        }
        return x;
    }

    static void type(SureMendings x, String text) {
        for (char character : text.toCharArray()) {
            x.type(character);
        }
    }

    /** Numbers below and above: the nearest ones, the farthest ones, and those whose low bits are those of 0. */
    static int[] outside(int least, int greatest) {
        return new int[] {least - 1, greatest + 1, NONE - 1, -100, 256, 65536, Integer.MIN_VALUE, Integer.MAX_VALUE};
    }

    /** Characters that are no value: those beside a and h, other kinds, and those whose low bits are those of a. */
    static char[] noValues() {
        return new char[] {'`', 'i', 'A', 'H', '0', '7', ' ', 0, 0x161, 0x8061, 0xffff};
    }

    /** The rows, written as in a text of rows. */
    static String rows(SureMendings x) {
        StringBuilder all = new StringBuilder();
        for (int row = 0; row < x.count(0); row++) {
            all.append(row == 0 ? "" : ",").append(x.row(row, 0)).append('=').append((char) x.row(row, 1));
            all.append(x.row(row, 2) == 0 ? "" : "" + x.row(row, 2));
            all.append(x.row(row, 3) == NONE ? "" : ">" + x.row(row, 3));
        }
        return all.toString();
    }

    /** All that can be told of the object without a change: rows, preference, history and text by their counts. */
    static String told(SureMendings x) {
        return rows(x) + " preference " + x.count(9) + " history " + x.count(10) + " text " + x.count(11);
    }

    /**
     * All of the object: its state, each state of its history, its snapshot, and what its text gives. To ask for it
     * uses the object up, and takes some 350 calls for tables of a few rows.
     */
    static String whole(SureMendings x) {
        StringBuilder all = new StringBuilder(told(x));
        int left = x.undo();
        while (left >= 0) {
            all.append("; undo ").append(told(x));
            left = x.undo();
        }
        all.append("; restore ").append(x.restore()).append(' ').append(rows(x)).append(' ').append(x.count(9));
        all.append("; read ").append(x.readRows()).append(' ').append(rows(x));
        return all.append("; characters ").append(x.clearText()).toString();
    }
}
