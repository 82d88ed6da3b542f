import java.util.Random;

/** Long runs of calls by chance (the same ones each time), with the answers of the plain model as the due ones. */
public final class ModelTest {
    private static final int RUNS = 300;
    private static final int CALLS = 512;
    /** The most calls that typing and reading a text takes. */
    private static final int TEXT_CALLS = 60;
    private static final int NONE = SureMendings.NONE;
    private static final Due due = new Due();

    private final int number;
    private final Random chance;
    private final SureMendings x = new SureMendings();
    private final PlainModel model = new PlainModel();
    /** Few keys and weights make doubled keys, rounds and alike weights; many make ways that are long. */
    private final int keys;
    private final int weights;

    private ModelTest(int number) {
        this.number = number;
        chance = new Random(number);
        keys = 1 + chance.nextInt(10);
        weights = chance.nextBoolean() ? 3 : 100;
    }

    public static void main(String[] args) {
        for (int run = 0; run < RUNS; run++) {
            new ModelTest(run).calls();
        }
        due.finish();
    }

    private void calls() {
        int done = 0;
        while (done < CALLS) {
            int kind = chance.nextInt(100);
            if (kind < 3 && done + TEXT_CALLS <= CALLS) {
                done += typeText();
            } else if (kind < 45) {
                act();
                done++;
            } else {
                ask();
                done++;
            }
        }
    }

    private void is(String call, int got, int want) {
        due.is("run " + number + ": " + call, got, want);
    }

    private int key() {
        int out = chance.nextInt(60);
        return out == 0 ? -1 : out == 1 ? 10 : out == 2 ? NONE : chance.nextInt(keys);
    }

    private int what(int bound) {
        return chance.nextInt(60) == 0 ? chance.nextInt(2 * bound) - bound : chance.nextInt(bound);
    }

    private char value() {
        return (char) ('a' + (chance.nextInt(40) == 0 ? chance.nextInt(20) - 6 : chance.nextInt(8)));
    }

    private void act() {
        int kind = chance.nextInt(40);
        int row = chance.nextInt(22) - 1;
        if (kind < 24) {
            add();
        } else if (kind < 27) {
            is("remove(" + row + ")", x.remove(row), model.remove(row));
        } else if (kind == 27) {
            is("mend(" + row + ")", x.mend(row), model.mend(row));
        } else if (kind == 28) {
            int rule = what(3);
            is("mendAll(" + rule + ")", x.mendAll(rule), model.mendAll(rule));
        } else if (kind < 32) {
            boolean on = chance.nextBoolean();
            is("prefer(" + on + ")", x.prefer(on), model.prefer(on));
        } else if (kind < 35) {
            is("readRows()", x.readRows(), model.readRows());
        } else if (kind < 38) {
            is("undo()", x.undo(), model.undo());
        } else if (kind == 38) {
            is("keep()", x.keep(), model.keep());
        } else {
            is("restore()", x.restore(), model.restore());
        }
    }

    private void add() {
        int key = key();
        char value = value();
        int weight = chance.nextInt(60) == 0 ? -1 + 101 * chance.nextInt(2) : chance.nextInt(weights);
        int to = chance.nextInt(5) == 0 ? NONE : key();
        is("add(" + key + ", " + value + ", " + weight + ", " + to + ")", x.add(key, value, weight, to),
            model.add(key, value, weight, to));
    }

    private void ask() {
        int kind = chance.nextInt(16);
        int from = key();
        int to = key();
        if (kind < 5) {
            int what = what(5);
            is("way(" + from + ", " + to + ", " + what + ")", x.way(from, to, what), model.way(from, to, what));
        } else if (kind < 7) {
            int what = what(2);
            is("bestMended(" + from + ", " + to + ", " + what + ")", x.bestMended(from, to, what),
                model.bestMended(from, to, what));
        } else if (kind < 9) {
            int what = what(12);
            is("count(" + what + ")", x.count(what), model.count(what));
        } else if (kind < 11) {
            int what = what(6);
            int row = chance.nextInt(22) - 1;
            is("row(" + row + ", " + what + ")", x.row(row, what), model.row(row, what));
        } else if (kind == 11) {
            int what = what(5);
            is("key(" + from + ", " + what + ")", x.key(from, what), model.key(from, what));
        } else if (kind < 14) {
            int what = what(5);
            char value = value();
            is("value(" + value + ", " + what + ")", x.value(value, what), model.value(value, what));
        } else if (kind == 14) {
            int mending = chance.nextInt(Math.max(1, model.count(3)) + 2) - 1;
            is("kept(" + mending + ", " + from + ")", x.kept(mending, from), model.kept(mending, from));
        } else {
            int what = what(4);
            is("sum(" + what + ")", x.sum(what), model.sum(what));
        }
    }

    /** A text of rows, in most cases without a fault; tells how many calls it took. */
    private int typeText() {
        StringBuilder text = new StringBuilder();
        for (int rows = chance.nextInt(7); rows >= 0; rows--) {
            text.append(chance.nextInt(keys)).append('=').append((char) ('a' + chance.nextInt(8)));
            int weight = chance.nextInt(weights);
            text.append(weight == 0 ? "" : "" + weight);
            text.append(chance.nextBoolean() ? "" : ">" + chance.nextInt(keys)).append(rows == 0 ? "" : ",");
        }
        if (chance.nextInt(3) == 0) {
            text.setCharAt(chance.nextInt(text.length()), "0123=>,,aghi \u0130".charAt(chance.nextInt(14)));
        }
        if (chance.nextInt(6) == 0) {
            text.setLength(chance.nextInt(text.length()));
        }
        if (chance.nextInt(8) != 0) {
            is("clearText()", x.clearText(), model.clearText());
        }
        for (char character : text.toString().toCharArray()) {
            is("type(" + (int) character + ")", x.type(character), model.type(character));
        }
        is("readRows() of " + text, x.readRows(), model.readRows());
        return text.length() + 2;
    }
}
