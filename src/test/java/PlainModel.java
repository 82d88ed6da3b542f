import java.util.ArrayDeque;
import java.util.ArrayList;
import java.util.Deque;
import java.util.List;
import java.util.function.IntPredicate;
import java.util.regex.Pattern;

/**
 * The document's words as they stand: every mending is written out, and every answer is looked for in all of them.
 * It shares no code and no idea with the class that it is compared with.
 */
final class PlainModel {
    private static final int UNKNOWN = -1;
    private static final int BAD_VALUE = -2;
    private static final int FULL = -3;
    private static final int NONE = -5;
    private static final String ROW = "[0-9]=[a-h]([1-9][0-9]?)?(>[0-9])?";
    private static final Pattern TEXT = Pattern.compile(ROW + "(," + ROW + ")*");

    private record Row(int key, char value, int weight, int to) {
    }

    private record State(List<Row> rows, boolean preferred) {
    }

    private State now = new State(List.of(), false);
    private State snapshot = null;
    private final Deque<State> history = new ArrayDeque<>();
    private String text = "";

    // ---- acts

    private int act(List<Row> rows, boolean preferred, int answer) {
        history.addLast(now);
        if (history.size() > 4) {
            history.removeFirst();
        }
        now = new State(List.copyOf(rows), preferred);
        return answer;
    }

    int add(int key, char value, int weight, int to) {
        if (key < 0 || key > 9 || (to != NONE && (to < 0 || to > 9))) {
            return UNKNOWN;
        }
        if ("abcdefgh".indexOf(value) < 0 || weight < 0 || weight > 99) {
            return BAD_VALUE;
        }
        if (now.rows.size() == 20) {
            return FULL;
        }
        List<Row> rows = new ArrayList<>(now.rows);
        rows.add(new Row(key, value, weight, to));
        return act(rows, now.preferred, rows.size() - 1);
    }

    int readRows() {
        if (!TEXT.matcher(text).matches()) {
            return -100 - fault();
        }
        List<Row> rows = new ArrayList<>(now.rows);
        for (String row : text.split(",")) {
            String[] parts = row.split("[=>]");
            String weight = parts[1].substring(1);
            rows.add(new Row(Integer.parseInt(parts[0]), parts[1].charAt(0),
                weight.isEmpty() ? 0 : Integer.parseInt(weight), parts.length == 3 ? Integer.parseInt(parts[2]) : NONE));
        }
        return rows.size() > 20 ? FULL : act(rows, now.preferred, rows.size());
    }

    /** The longest beginning that some text of rows has is as long as the fault's index. */
    private int fault() {
        for (int length = text.length(); length > 0; length--) {
            if (begins(text.substring(0, length))) {
                return length;
            }
        }
        return 0;
    }

    private static boolean begins(String start) {
        for (String rest : new String[] {"", "a", "=a", "0", "0=a"}) {
            if (TEXT.matcher(start + rest).matches()) {
                return true;
            }
        }
        return false;
    }

    int remove(int row) {
        if (row < 0 || row >= now.rows.size()) {
            return UNKNOWN;
        }
        List<Row> rows = new ArrayList<>(now.rows);
        rows.remove(row);
        return act(rows, now.preferred, rows.size());
    }

    int mend(int row) {
        if (row < 0 || row >= now.rows.size()) {
            return UNKNOWN;
        }
        List<Row> rows = new ArrayList<>();
        for (int each = 0; each < now.rows.size(); each++) {
            if (each == row || now.rows.get(each).key != now.rows.get(row).key) {
                rows.add(now.rows.get(each));
            }
        }
        int removed = now.rows.size() - rows.size();
        return removed == 0 ? NONE : act(rows, now.preferred, removed);
    }

    int mendAll(int rule) {
        if (rule < 0 || rule > 2) {
            return BAD_VALUE;
        }
        List<Integer> left = new ArrayList<>();
        for (int key = 0; key < 10; key++) {
            List<Integer> numbers = numbersOf(key);
            if (!numbers.isEmpty()) {
                left.add(rule == 0 ? numbers.get(0) : rule == 1 ? numbers.get(numbers.size() - 1) : heaviest(key));
            }
        }
        List<Row> rows = left.stream().sorted().map(now.rows::get).toList();
        int removed = now.rows.size() - rows.size();
        return removed == 0 ? NONE : act(rows, now.preferred, removed);
    }

    int prefer(boolean on) {
        if (on == now.preferred) {
            return NONE;
        }
        act(now.rows, on, 0);
        return mendings(now).size();
    }

    int type(char character) {
        if (text.length() == 80) {
            return FULL;
        }
        text += character;
        return text.length();
    }

    int clearText() {
        int length = text.length();
        text = "";
        return length;
    }

    int undo() {
        if (history.isEmpty()) {
            return NONE;
        }
        now = history.removeLast();
        return history.size();
    }

    int keep() {
        snapshot = now;
        return now.rows.size();
    }

    int restore() {
        return snapshot == null ? NONE : act(snapshot.rows, snapshot.preferred, snapshot.rows.size());
    }

    // ---- rows and mendings

    private List<Integer> numbersOf(int key) {
        List<Integer> numbers = new ArrayList<>();
        for (int row = 0; row < now.rows.size(); row++) {
            if (now.rows.get(row).key == key) {
                numbers.add(row);
            }
        }
        return numbers;
    }

    private int weight(int row) {
        return now.rows.get(row).weight;
    }

    private int heaviest(int key) {
        return numbersOf(key).stream().reduce((one, next) -> weight(next) > weight(one) ? next : one).orElse(NONE);
    }

    private int lightest(int key) {
        return numbersOf(key).stream().reduce((one, next) -> weight(next) < weight(one) ? next : one).orElse(NONE);
    }

    private static boolean preferred(Row row, List<Row> rows) {
        return rows.stream().noneMatch(other -> other.key == row.key && other.weight > row.weight);
    }

    private static List<Integer> keepable(State state, int key) {
        List<Integer> found = new ArrayList<>();
        for (int row = 0; row < state.rows.size(); row++) {
            Row each = state.rows.get(row);
            if (each.key == key && (!state.preferred || preferred(each, state.rows))) {
                found.add(row);
            }
        }
        return found;
    }

    /** All mendings by their numbers; each tells for each key the row that it keeps, or NONE. */
    private static List<int[]> mendings(State state) {
        int[] choices = new int[10];
        int many = 1;
        for (int key = 0; key < 10; key++) {
            choices[key] = keepable(state, key).size();
            many *= Math.max(1, choices[key]);
        }
        List<int[]> all = new ArrayList<>();
        for (int number = 0; number < many; number++) {
            int[] mending = new int[10];
            int rest = number;
            for (int key = 0; key < 10; key++) {
                if (choices[key] == 0) {
                    mending[key] = NONE;
                } else {
                    mending[key] = keepable(state, key).get(rest % choices[key]);
                    rest /= choices[key];
                }
            }
            all.add(mending);
        }
        return all;
    }

    /** The pointers that are followed from one key to the other, or NONE if no way goes there. */
    private static int pointers(State state, int[] mending, int from, int to) {
        int key = from;
        for (int followed = 0; followed <= 20 && key != NONE && mending[key] != NONE; followed++) {
            if (key == to) {
                return followed;
            }
            key = state.rows.get(mending[key]).to;
        }
        return NONE;
    }

    private static int lowest(List<int[]> all, State state, int from, int to) {
        for (int number = 0; number < all.size(); number++) {
            if (pointers(state, all.get(number), from, to) == NONE) {
                return number;
            }
        }
        return NONE;
    }

    // ---- what is told

    int row(int row, int what) {
        if (row < 0 || row >= now.rows.size()) {
            return UNKNOWN;
        }
        Row told = now.rows.get(row);
        return switch (what) {
            case 0 -> told.key;
            case 1 -> told.value;
            case 2 -> told.weight;
            case 3 -> told.to;
            case 4 -> one(keepable(now, told.key).contains(row));
            case 5 -> one(mendings(now).stream().allMatch(mending -> mending[told.key] == row));
            default -> BAD_VALUE;
        };
    }

    int key(int key, int what) {
        if (key < 0 || key > 9) {
            return UNKNOWN;
        }
        return switch (what) {
            case 0 -> numbersOf(key).size();
            case 1 -> keepable(now, key).size();
            case 2 -> lightest(key);
            case 3 -> heaviest(key);
            case 4 -> (int) now.rows.stream().filter(row -> row.to == key).count();
            default -> BAD_VALUE;
        };
    }

    int value(char value, int what) {
        if (value < 'a' || value > 'h' || what < 0 || what > 4) {
            return BAD_VALUE;
        }
        int mendings = 0;
        int holding = 0;
        int fewest = Integer.MAX_VALUE;
        int most = 0;
        for (int[] mending : mendings(now)) {
            int with = 0;
            for (int row : mending) {
                with += one(row != NONE && now.rows.get(row).value == value);
            }
            mendings++;
            holding += one(with > 0);
            fewest = Math.min(fewest, with);
            most = Math.max(most, with);
        }
        return new int[] {one(holding == mendings), one(holding > 0), holding, fewest, most}[what];
    }

    int way(int from, int to, int what) {
        if (from < 0 || from > 9 || to < 0 || to > 9) {
            return UNKNOWN;
        }
        if (what < 0 || what > 4) {
            return BAD_VALUE;
        }
        List<int[]> all = mendings(now);
        int holding = 0;
        int fewest = NONE;
        for (int[] mending : all) {
            int pointers = pointers(now, mending, from, to);
            holding += one(pointers != NONE);
            fewest = fewest == NONE || (pointers != NONE && pointers < fewest) ? pointers : fewest;
        }
        return new int[] {one(holding == all.size()), one(holding > 0), holding, lowest(all, now, from, to), fewest}[what];
    }

    int kept(int mending, int key) {
        if (key < 0 || key > 9) {
            return UNKNOWN;
        }
        List<int[]> all = mendings(now);
        return mending < 0 || mending >= all.size() ? BAD_VALUE : all.get(mending)[key];
    }

    int sum(int what) {
        if (what < 0 || what > 3) {
            return BAD_VALUE;
        }
        int least = Integer.MAX_VALUE;
        int greatest = -1;
        int first = 0;
        int second = 0;
        List<int[]> all = mendings(now);
        for (int number = 0; number < all.size(); number++) {
            int sum = 0;
            for (int row : all.get(number)) {
                sum += row == NONE ? 0 : weight(row);
            }
            if (sum < least) {
                least = sum;
                first = number;
            }
            if (sum > greatest) {
                greatest = sum;
                second = number;
            }
        }
        return new int[] {least, greatest, first, second}[what];
    }

    int bestMended(int from, int to, int what) {
        if (from < 0 || from > 9 || to < 0 || to > 9) {
            return UNKNOWN;
        }
        if (what < 0 || what > 1) {
            return BAD_VALUE;
        }
        if (lowest(mendings(now), now, from, to) == NONE) {
            return NONE;
        }
        for (int key = 0; key < 10; key++) {
            if (numbersOf(key).size() < 2) {
                continue;
            }
            for (int row : keepable(now, key)) {
                List<Row> left = new ArrayList<>();
                for (int each = 0; each < now.rows.size(); each++) {
                    if (each == row || now.rows.get(each).key != key) {
                        left.add(now.rows.get(each));
                    }
                }
                State mended = new State(left, now.preferred);
                if (lowest(mendings(mended), mended, from, to) == NONE) {
                    return what == 0 ? key : row;
                }
            }
        }
        return NONE;
    }

    int count(int what) {
        return switch (what) {
            case 0 -> now.rows.size();
            case 1 -> many(10, key -> !numbersOf(key).isEmpty());
            case 2 -> many(10, key -> numbersOf(key).size() > 1);
            case 3 -> mendings(now).size();
            case 4 -> many(now.rows.size(), row -> row(row, 5) == 1);
            case 5 -> many(8, letter -> value((char) ('a' + letter), 0) == 1);
            case 6 -> many(8, letter -> value((char) ('a' + letter), 1) == 1);
            case 7 -> ways(found -> found[1] == found[0]);
            case 8 -> ways(found -> found[1] > 0);
            case 9 -> one(now.preferred);
            case 10 -> history.size();
            case 11 -> text.length();
            default -> BAD_VALUE;
        };
    }

    private interface Found {
        boolean fits(int[] mendingsAndHolding);
    }

    private int ways(Found found) {
        List<int[]> all = mendings(now);
        return many(100, pair -> found.fits(new int[] {all.size(),
            many(all.size(), number -> pointers(now, all.get(number), pair / 10, pair % 10) != NONE)}));
    }

    private static int many(int bound, IntPredicate holds) {
        int found = 0;
        for (int number = 0; number < bound; number++) {
            found += one(holds.test(number));
        }
        return found;
    }

    private static int one(boolean holds) {
        return holds ? 1 : 0;
    }
}
