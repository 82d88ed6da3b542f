import java.util.Arrays;

/** Rows whose keys may be doubled, and the answers that hold however the doubled keys are mended. */
public final class SureMendings {
    public static final int UNKNOWN = -1;
    public static final int BAD_VALUE = -2;
    public static final int FULL = -3;
    public static final int NOT_POSSIBLE = -4;
    public static final int NONE = -5;

    private static final int KEYS = 10;
    private static final int MOST_ROWS = 20;
    private static final int MOST_WEIGHT = 99;
    private static final int MOST_STATES = 4;
    private static final int MOST_TEXT = 80;
    private static final char FIRST_VALUE = 'a';
    private static final char LAST_VALUE = 'h';
    private static final int FAULTS_FROM = -100;

    private static final int BY_FIRST = 0;
    private static final int BY_LAST = 1;
    private static final int BY_HEAVIEST = 2;

    private final Table table;
    private final Choices choices;
    private final History history;
    private final Table snapshot;
    private boolean snapshotTaken;
    private final Text text;
    private final Reader reader;

    public SureMendings() {
        table = new Table();
        choices = new Choices(table);
        history = new History();
        snapshot = new Table();
        snapshotTaken = false;
        text = new Text();
        reader = new Reader(text);
    }

    // ---- rows

    public int add(int key, char value, int weight, int to) {
        if (!isKey(key) || !(isKey(to) || to == NONE)) {
            return UNKNOWN;
        }
        if (!isValue(value) || weight < 0 || weight > MOST_WEIGHT) {
            return BAD_VALUE;
        }
        if (table.room() < 1) {
            return FULL;
        }
        history.remember(table);
        table.append(key, value, weight, to);
        return table.size() - 1;
    }

    public int readRows() {
        if (!reader.readAll()) {
            return FAULTS_FROM - reader.position();
        }
        if (table.room() < reader.rowsRead().size()) {
            return FULL;
        }
        history.remember(table);
        table.appendAll(reader.rowsRead());
        return table.size();
    }

    public int remove(int row) {
        if (!table.has(row)) {
            return UNKNOWN;
        }
        history.remember(table);
        table.drop(row);
        return table.size();
    }

    public int mend(int row) {
        if (!table.has(row)) {
            return UNKNOWN;
        }
        int others = table.rowsWith(table.keyAt(row)) - 1;
        if (others == 0) {
            return NONE;
        }
        history.remember(table);
        table.dropOthersLike(row);
        return others;
    }

    public int mendAll(int rule) {
        if (rule < BY_FIRST || rule > BY_HEAVIEST) {
            return BAD_VALUE;
        }
        if (table.doubledKeys() == 0) {
            return NONE;
        }
        history.remember(table);
        int rowsBefore = table.size();
        for (int key = 0; key < KEYS; key++) {
            table.dropOthersLike(chosenBy(rule, key));
        }
        return rowsBefore - table.size();
    }

    public int prefer(boolean on) {
        if (on == table.prefersHeaviest()) {
            return NONE;
        }
        history.remember(table);
        table.setPreference(on);
        return choicesNow().mendings();
    }

    // ---- texts

    public int type(char character) {
        return text.append(character) ? text.length() : FULL;
    }

    public int clearText() {
        int length = text.length();
        text.empty();
        return length;
    }

    // ---- history

    public int undo() {
        return history.takeBack(table) ? history.size() : NONE;
    }

    public int keep() {
        snapshot.copyFrom(table);
        snapshotTaken = true;
        return table.size();
    }

    public int restore() {
        if (!snapshotTaken) {
            return NONE;
        }
        history.remember(table);
        table.copyFrom(snapshot);
        return table.size();
    }

    // ---- what is told

    public int row(int row, int what) {
        if (!table.has(row)) {
            return UNKNOWN;
        }
        switch (what) {
            case 0: return table.keyAt(row);
            case 1: return table.valueAt(row);
            case 2: return table.weightAt(row);
            case 3: return table.targetAt(row);
            case 4: return oneIf(table.canBeKept(row));
            case 5: return oneIf(choicesNow().isSureRow(row));
            default: return BAD_VALUE;
        }
    }

    public int key(int key, int what) {
        if (!isKey(key)) {
            return UNKNOWN;
        }
        switch (what) {
            case 0: return table.rowsWith(key);
            case 1: return choicesNow().optionsOf(key);
            case 2: return table.lightestWith(key);
            case 3: return table.heaviestWith(key);
            case 4: return table.rowsPointingTo(key);
            default: return BAD_VALUE;
        }
    }

    public int value(char value, int what) {
        if (!isValue(value)) {
            return BAD_VALUE;
        }
        Choices now = choicesNow();
        switch (what) {
            case 0: return oneIf(now.fewestKeptWith(value) > 0);
            case 1: return oneIf(now.mostKeptWith(value) > 0);
            case 2: return now.mendings() - now.mendingsWithout(value);
            case 3: return now.fewestKeptWith(value);
            case 4: return now.mostKeptWith(value);
            default: return BAD_VALUE;
        }
    }

    public int way(int from, int to, int what) {
        if (!isKey(from) || !isKey(to)) {
            return UNKNOWN;
        }
        Choices now = choicesNow();
        switch (what) {
            case 0: return oneIf(now.isSureWay(from, to));
            case 1: return oneIf(now.fewestPointers(from, to) != NONE);
            case 2: return now.mendingsWithWay(from, to);
            case 3: return now.firstMendingWithoutWay(from, to);
            case 4: return now.fewestPointers(from, to);
            default: return BAD_VALUE;
        }
    }

    public int kept(int mending, int key) {
        if (!isKey(key)) {
            return UNKNOWN;
        }
        Choices now = choicesNow();
        if (mending < 0 || mending >= now.mendings()) {
            return BAD_VALUE;
        }
        return now.rowKeptBy(mending, key);
    }

    public int sum(int what) {
        Choices now = choicesNow();
        switch (what) {
            case 0: return now.sumKeptBy(now.firstLightestMending());
            case 1: return now.sumKeptBy(now.firstHeaviestMending());
            case 2: return now.firstLightestMending();
            case 3: return now.firstHeaviestMending();
            default: return BAD_VALUE;
        }
    }

    public int bestMended(int from, int to, int what) {
        if (!isKey(from) || !isKey(to)) {
            return UNKNOWN;
        }
        if (what != 0 && what != 1) {
            return BAD_VALUE;
        }
        int row = choicesNow().rowThatMakesSure(from, to);
        if (row == NONE) {
            return NONE;
        }
        return what == 0 ? table.keyAt(row) : row;
    }

    public int count(int what) {
        switch (what) {
            case 0: return table.size();
            case 1: return table.keysThere();
            case 2: return table.doubledKeys();
            case 3: return choicesNow().mendings();
            case 4: return choicesNow().sureRows();
            case 5: return choicesNow().sureValues();
            case 6: return choicesNow().possibleValues();
            case 7: return choicesNow().sureWays();
            case 8: return choicesNow().possibleWays();
            case 9: return oneIf(table.prefersHeaviest());
            case 10: return history.size();
            case 11: return text.length();
            default: return BAD_VALUE;
        }
    }

    // ---- helpers

    private Choices choicesNow() {
        choices.update();
        return choices;
    }

    private int chosenBy(int rule, int key) {
        switch (rule) {
            case BY_FIRST: return table.firstWith(key);
            case BY_LAST: return table.lastWith(key);
            default: return table.heaviestWith(key);
        }
    }

    private static boolean isKey(int key) {
        return key >= 0 && key < KEYS;
    }

    private static boolean isValue(char value) {
        return value >= FIRST_VALUE && value <= LAST_VALUE;
    }

    private static int oneIf(boolean holds) {
        return holds ? 1 : 0;
    }

    /** The number at the index, or NONE where the array has no such index. */
    private static int at(int[] numbers, int index) {
        return index >= 0 && index < numbers.length ? numbers[index] : NONE;
    }

    /** Puts the number at the index, if the array has such an index. */
    private static void put(int[] numbers, int index, int number) {
        if (index >= 0 && index < numbers.length) {
            numbers[index] = number;
        }
    }

    private static void copy(int[] source, int[] target) {
        System.arraycopy(source, 0, target, 0, Math.min(source.length, target.length));
    }

    /** A state: the rows in their order, and the preference. */
    private static final class Table {
        private final int[] keys = new int[MOST_ROWS];
        private final int[] values = new int[MOST_ROWS];
        private final int[] weights = new int[MOST_ROWS];
        private final int[] targets = new int[MOST_ROWS];
        private int size;
        private boolean preferring;

        int size() {
            return size;
        }

        int room() {
            return MOST_ROWS - size;
        }

        boolean has(int row) {
            return row >= 0 && row < size;
        }

        int keyAt(int row) {
            return at(keys, row);
        }

        int valueAt(int row) {
            return at(values, row);
        }

        int weightAt(int row) {
            return at(weights, row);
        }

        int targetAt(int row) {
            return at(targets, row);
        }

        boolean prefersHeaviest() {
            return preferring;
        }

        void setPreference(boolean on) {
            preferring = on;
        }

        void copyFrom(Table other) {
            copy(other.keys, keys);
            copy(other.values, values);
            copy(other.weights, weights);
            copy(other.targets, targets);
            size = other.size;
            preferring = other.preferring;
        }

        void empty() {
            size = 0;
        }

        void append(int key, int value, int weight, int target) {
            if (room() > 0) {
                put(keys, size, key);
                put(values, size, value);
                put(weights, size, weight);
                put(targets, size, target);
                size++;
            }
        }

        void appendAll(Table other) {
            for (int row = 0; row < other.size; row++) {
                append(other.keyAt(row), other.valueAt(row), other.weightAt(row), other.targetAt(row));
            }
        }

        void drop(int row) {
            if (has(row)) {
                for (int behind = row + 1; behind < size; behind++) {
                    move(behind, behind - 1);
                }
                size--;
            }
        }

        /** Drops all rows with the row's key but this one. */
        void dropOthersLike(int row) {
            if (has(row)) {
                int key = keyAt(row);
                int left = 0;
                for (int each = 0; each < size; each++) {
                    if (each == row || keyAt(each) != key) {
                        move(each, left);
                        left++;
                    }
                }
                size = left;
            }
        }

        private void move(int row, int place) {
            put(keys, place, keyAt(row));
            put(values, place, valueAt(row));
            put(weights, place, weightAt(row));
            put(targets, place, targetAt(row));
        }

        int rowsWith(int key) {
            int rows = 0;
            for (int row = 0; row < size; row++) {
                if (keyAt(row) == key) {
                    rows++;
                }
            }
            return rows;
        }

        int rowsPointingTo(int key) {
            int rows = 0;
            for (int row = 0; row < size; row++) {
                if (targetAt(row) == key) {
                    rows++;
                }
            }
            return rows;
        }

        int keysThere() {
            return keysWithAtLeast(1);
        }

        int doubledKeys() {
            return keysWithAtLeast(2);
        }

        private int keysWithAtLeast(int rows) {
            int found = 0;
            for (int key = 0; key < KEYS; key++) {
                if (rowsWith(key) >= rows) {
                    found++;
                }
            }
            return found;
        }

        int firstWith(int key) {
            for (int row = 0; row < size; row++) {
                if (keyAt(row) == key) {
                    return row;
                }
            }
            return NONE;
        }

        int lastWith(int key) {
            for (int row = size - 1; row >= 0; row--) {
                if (keyAt(row) == key) {
                    return row;
                }
            }
            return NONE;
        }

        /** The lightest row with the key, of several the first; NONE if the key is not there. */
        int lightestWith(int key) {
            int lightest = NONE;
            for (int row = 0; row < size; row++) {
                if (keyAt(row) == key && (lightest == NONE || weightAt(row) < weightAt(lightest))) {
                    lightest = row;
                }
            }
            return lightest;
        }

        /** The heaviest row with the key, of several the first; NONE if the key is not there. */
        int heaviestWith(int key) {
            int heaviest = NONE;
            for (int row = 0; row < size; row++) {
                if (keyAt(row) == key && (heaviest == NONE || weightAt(row) > weightAt(heaviest))) {
                    heaviest = row;
                }
            }
            return heaviest;
        }

        boolean canBeKept(int row) {
            return !preferring || weightAt(row) == weightAt(heaviestWith(keyAt(row)));
        }
    }

    /**
     * The rows that the mendings of a table choose from, its "options": for each key those that can be kept.
     * The keys choose without regard to one another, so most answers come from the keys one by one,
     * and no list of all mendings is made.
     */
    private static final class Choices {
        /** The bit of a pointer that points to no key; no set of keys has it. */
        private static final int NOWHERE = 1 << KEYS;

        private final Table table;
        private final int[] optionCounts = new int[KEYS];
        private final int[] optionRows = new int[KEYS * MOST_ROWS];
        /** For each key how many mendings the lower keys make: by so much its choice is told slower than theirs. */
        private final int[] strides = new int[KEYS];
        /** For each key the set of what its options point to, a bit a key; it is empty only if the key is not there. */
        private final int[] targetSets = new int[KEYS];
        private int mendings;

        Choices(Table table) {
            this.table = table;
        }

        /** To be called after the table has changed. */
        void update() {
            Arrays.fill(optionCounts, 0);
            Arrays.fill(targetSets, 0);
            for (int row = 0; row < table.size(); row++) {
                if (table.canBeKept(row)) {
                    addOption(table.keyAt(row), row);
                }
            }
            mendings = 1;
            for (int key = 0; key < KEYS; key++) {
                put(strides, key, mendings);
                if (isThere(key)) {
                    mendings *= optionsOf(key);
                }
            }
        }

        private void addOption(int key, int row) {
            int options = optionsOf(key);
            put(optionRows, key * MOST_ROWS + options, row);
            put(optionCounts, key, options + 1);
            put(targetSets, key, at(targetSets, key) | targetBit(row));
        }

        private int targetBit(int row) {
            int target = table.targetAt(row);
            return isKey(target) ? 1 << target : NOWHERE;
        }

        int mendings() {
            return mendings;
        }

        int optionsOf(int key) {
            return at(optionCounts, key);
        }

        private boolean isThere(int key) {
            return optionsOf(key) > 0;
        }

        private int option(int key, int number) {
            return at(optionRows, key * MOST_ROWS + number);
        }

        /** The row of the key that the mending keeps; NONE if the key is not there. */
        int rowKeptBy(int mending, int key) {
            int options = optionsOf(key);
            int stride = at(strides, key);
            if (options < 1 || stride < 1) {
                return NONE;
            }
            return option(key, mending / stride % options);
        }

        boolean isSureRow(int row) {
            return table.canBeKept(row) && optionsOf(table.keyAt(row)) == 1;
        }

        int sureRows() {
            int rows = 0;
            for (int row = 0; row < table.size(); row++) {
                if (isSureRow(row)) {
                    rows++;
                }
            }
            return rows;
        }

        // ---- values

        private int optionsWith(int key, int value) {
            int found = 0;
            for (int number = 0; number < optionsOf(key); number++) {
                if (table.valueAt(option(key, number)) == value) {
                    found++;
                }
            }
            return found;
        }

        int fewestKeptWith(int value) {
            int keys = 0;
            for (int key = 0; key < KEYS; key++) {
                if (isThere(key) && optionsWith(key, value) == optionsOf(key)) {
                    keys++;
                }
            }
            return keys;
        }

        int mostKeptWith(int value) {
            int keys = 0;
            for (int key = 0; key < KEYS; key++) {
                if (optionsWith(key, value) > 0) {
                    keys++;
                }
            }
            return keys;
        }

        int mendingsWithout(int value) {
            int without = 1;
            for (int key = 0; key < KEYS; key++) {
                if (isThere(key)) {
                    without *= optionsOf(key) - optionsWith(key, value);
                }
            }
            return without;
        }

        int sureValues() {
            int values = 0;
            for (int value = FIRST_VALUE; value <= LAST_VALUE; value++) {
                if (fewestKeptWith(value) > 0) {
                    values++;
                }
            }
            return values;
        }

        int possibleValues() {
            int values = 0;
            for (int value = FIRST_VALUE; value <= LAST_VALUE; value++) {
                if (mostKeptWith(value) > 0) {
                    values++;
                }
            }
            return values;
        }

        // ---- sums

        int sumKeptBy(int mending) {
            int sum = 0;
            for (int key = 0; key < KEYS; key++) {
                if (isThere(key)) {
                    sum += table.weightAt(rowKeptBy(mending, key));
                }
            }
            return sum;
        }

        int firstLightestMending() {
            return firstMendingByWeight(-1);
        }

        int firstHeaviestMending() {
            return firstMendingByWeight(1);
        }

        /** The sign tells whether more weight is better (1) or worse (-1). */
        private int firstMendingByWeight(int sign) {
            int mending = 0;
            for (int key = 0; key < KEYS; key++) {
                int best = 0;
                for (int number = 1; number < optionsOf(key); number++) {
                    if (sign * optionWeight(key, number) > sign * optionWeight(key, best)) {
                        best = number;
                    }
                }
                mending += best * at(strides, key);
            }
            return mending;
        }

        private int optionWeight(int key, int number) {
            return table.weightAt(option(key, number));
        }

        // ---- ways

        private boolean holdsIn(int mending, int from, int to) {
            int key = from;
            for (int passed = 0; passed < KEYS; passed++) {
                if (!isThere(key)) {
                    return false;
                }
                if (key == to) {
                    return true;
                }
                key = table.targetAt(rowKeptBy(mending, key));
            }
            return false;
        }

        int mendingsWithWay(int from, int to) {
            int found = 0;
            for (int mending = 0; mending < mendings; mending++) {
                if (holdsIn(mending, from, to)) {
                    found++;
                }
            }
            return found;
        }

        int firstMendingWithoutWay(int from, int to) {
            for (int mending = 0; mending < mendings; mending++) {
                if (!holdsIn(mending, from, to)) {
                    return mending;
                }
            }
            return NONE;
        }

        /** The pointers of the shortest way in any mending: no shortest way meets a key twice, so some mending has it. */
        int fewestPointers(int from, int to) {
            int reaching = setOf(to);
            for (int pointers = 0; pointers < KEYS; pointers++) {
                if (contains(reaching, from)) {
                    return pointers;
                }
                reaching |= keysThatCanPointInto(reaching);
            }
            return NONE;
        }

        boolean isSureWay(int from, int to) {
            return contains(keysSureToReach(to), from);
        }

        /**
         * The keys from which a way is sure: a key joins when all its options point to keys that have joined.
         * Of the keys left out each has an option that stays outside, and one mending keeps all of these.
         */
        private int keysSureToReach(int to) {
            int reaching = setOf(to);
            for (int round = 1; round < KEYS; round++) {
                reaching |= keysThatMustPointInto(reaching);
            }
            return reaching;
        }

        private int keysThatCanReach(int to) {
            int reaching = setOf(to);
            for (int round = 1; round < KEYS; round++) {
                reaching |= keysThatCanPointInto(reaching);
            }
            return reaching;
        }

        private int keysThatCanPointInto(int set) {
            int found = 0;
            for (int key = 0; key < KEYS; key++) {
                if ((at(targetSets, key) & set) != 0) {
                    found |= 1 << key;
                }
            }
            return found;
        }

        private int keysThatMustPointInto(int set) {
            int found = 0;
            for (int key = 0; key < KEYS; key++) {
                int targets = at(targetSets, key);
                if (targets != 0 && (targets & ~set) == 0) {
                    found |= 1 << key;
                }
            }
            return found;
        }

        /** The set of this one key, or the empty set if it is not there. */
        private int setOf(int key) {
            return isThere(key) ? 1 << key : 0;
        }

        private static boolean contains(int set, int key) {
            return (set & 1 << key) != 0;
        }

        int sureWays() {
            int ways = 0;
            for (int to = 0; to < KEYS; to++) {
                ways += Integer.bitCount(keysSureToReach(to));
            }
            return ways;
        }

        int possibleWays() {
            int ways = 0;
            for (int to = 0; to < KEYS; to++) {
                ways += Integer.bitCount(keysThatCanReach(to));
            }
            return ways;
        }

        // ---- the best mended key

        /** The first row of the lowest key that makes the way sure when its key is mended by it, or NONE. */
        int rowThatMakesSure(int from, int to) {
            if (isSureWay(from, to)) {
                return NONE;
            }
            for (int key = 0; key < KEYS; key++) {
                for (int number = 0; number < optionsOf(key); number++) {
                    int row = option(key, number);
                    if (isSureWayOnceMended(key, row, from, to)) {
                        return row;
                    }
                }
            }
            return NONE;
        }

        private boolean isSureWayOnceMended(int key, int row, int from, int to) {
            int targets = at(targetSets, key);
            put(targetSets, key, targetBit(row));
            boolean sure = contains(keysSureToReach(to), from);
            put(targetSets, key, targets);
            return sure;
        }
    }

    /** The latest states, in a ring: the slot that is next written holds the oldest one once all are used. */
    private static final class History {
        private final Table[] states = new Table[MOST_STATES];
        private int next;
        private int size;

        History() {
            for (int slot = 0; slot < states.length; slot++) {
                states[slot] = new Table();
            }
        }

        int size() {
            return size;
        }

        void remember(Table state) {
            Table slot = slotAt(next);
            if (slot != null) {
                slot.copyFrom(state);
                next = (next + 1) % MOST_STATES;
                size = Math.min(size + 1, MOST_STATES);
            }
        }

        /** Moves the latest state into the table; false if there is none. */
        boolean takeBack(Table table) {
            int latest = (next + MOST_STATES - 1) % MOST_STATES;
            Table slot = slotAt(latest);
            if (size < 1 || slot == null) {
                return false;
            }
            table.copyFrom(slot);
            next = latest;
            size--;
            return true;
        }

        private Table slotAt(int slot) {
            return slot >= 0 && slot < states.length ? states[slot] : null;
        }
    }

    private static final class Text {
        private final char[] characters = new char[MOST_TEXT];
        private int length;

        int length() {
            return length;
        }

        boolean append(char character) {
            if (length < 0 || length >= characters.length) {
                return false;
            }
            characters[length] = character;
            length++;
            return true;
        }

        void empty() {
            length = 0;
        }

        /** The character at the index, or NONE behind the end. */
        int characterAt(int index) {
            return index >= 0 && index < length && index < characters.length ? characters[index] : NONE;
        }
    }

    /** Reads the rows of a text. It stands still at the first character that is not allowed: that is the fault. */
    private static final class Reader {
        private final Text text;
        private final Table rowsRead = new Table();
        private int position;

        Reader(Text text) {
            this.text = text;
        }

        int position() {
            return position;
        }

        Table rowsRead() {
            return rowsRead;
        }

        boolean readAll() {
            position = 0;
            rowsRead.empty();
            // no text is long enough for more rows, so behind a last "," the text has ended
            for (int rows = 0; rows < MOST_ROWS; rows++) {
                if (!readOne()) {
                    return false;
                }
                if (!take(',')) {
                    return position == text.length();
                }
            }
            return false;
        }

        private boolean readOne() {
            int key = takeBetween('0', '9');
            if (key == NONE || !take('=')) {
                return false;
            }
            int value = takeBetween(FIRST_VALUE, LAST_VALUE);
            if (value == NONE) {
                return false;
            }
            int weight = takeWeight();
            int target = NONE;
            if (take('>')) {
                int digit = takeBetween('0', '9');
                if (digit == NONE) {
                    return false;
                }
                target = digit - '0';
            }
            rowsRead.append(key - '0', value, weight, target);
            return true;
        }

        private int takeWeight() {
            int first = takeBetween('1', '9');
            if (first == NONE) {
                return 0;
            }
            int second = takeBetween('0', '9');
            return second == NONE ? first - '0' : (first - '0') * 10 + (second - '0');
        }

        private boolean take(char wanted) {
            return takeBetween(wanted, wanted) != NONE;
        }

        private int takeBetween(char lowest, char highest) {
            int character = text.characterAt(position);
            if (character < lowest || character > highest) {
                return NONE;
            }
            position++;
            return character;
        }
    }
}
