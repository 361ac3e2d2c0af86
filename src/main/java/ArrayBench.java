/** A bench for orthogonal arrays with mixed levels. README.md tells how to use it. */
public final class ArrayBench {
    public static final int BAD = -1, STATE = -2, FULL = -3, NONE = -9;

    private static final int MAX_ROWS = 36;
    private static final int MAX_COLUMNS = 7;
    private static final int MIN_LEVELS = 2;
    private static final int MAX_LEVELS = 6;
    private static final int MAX_FACTOR = 5;
    private static final int MAX_DIGITS = 9999999;
    private static final int MAX_TEXT = 300;
    private static final int MAX_STATES = 8;
    private static final int IMAGES = 2;
    private static final int EXTENSION_ROWS = 16;
    private static final int SPARE_ROWS = 12;
    private static final int MATCH_ROWS = 18;
    private static final int MATCH_LEVELS = 4;
    private static final int MATCH_ORDERS = 24;

    private final Table now = new Table();
    private final History history = new History();
    private final Table[] images = new Table[IMAGES];
    private final boolean[] keeps = new boolean[IMAGES];
    private final Script script = new Script();
    private final Census census = new Census();
    private final ColumnSearch search = new ColumnSearch();
    private final Matcher matcher = new Matcher();

    // The last search and the last match stay valid until the array or the image changes.
    private int searchedLevels = 0;
    private boolean searchFound = false;
    private int matchedImage = -1;
    private boolean matchFound = false;

    public ArrayBench() {
        for (int i = 0; i < IMAGES; i++) {
            images[i] = new Table();
        }
    }

    // ---- the array

    public int begin(int rows) {
        if (rows < 0 || rows > MAX_ROWS) {
            return BAD;
        }
        int before = now.rows;
        record();
        now.reset(rows);
        return before;
    }

    public int addColumn(int levels) {
        if (!isLevelCount(levels)) {
            return BAD;
        }
        if (now.columns >= MAX_COLUMNS) {
            return FULL;
        }
        record();
        return now.append(levels);
    }

    public int dropColumn(int c) {
        if (!now.hasColumn(c)) {
            return BAD;
        }
        record();
        now.removeColumn(c);
        return now.columns;
    }

    public int put(int r, int c, int level) {
        if (!now.hasRow(r) || !now.hasColumn(c) || level < 0 || level >= now.sizes[c]) {
            return BAD;
        }
        int before = now.at(r, c);
        record();
        now.set(r, c, level);
        return before;
    }

    public int dropRow(int r) {
        if (!now.hasRow(r)) {
            return BAD;
        }
        record();
        now.removeRow(r);
        return now.rows;
    }

    public int dropCopies() {
        Table before = record();
        now.removeCopies();
        return before.rows - now.rows;
    }

    public int sort() {
        record();
        return now.sortRows();
    }

    public int factorial(int levels) {
        if (levels < MIN_LEVELS || levels > MAX_DIGITS || !areLevelCounts(levels)) {
            return BAD;
        }
        int rows = 1;
        for (int rest = levels; rest > 0; rest /= 10) {
            rows *= rest % 10;
        }
        if (rows > MAX_ROWS) {
            return FULL;
        }
        record();
        now.becomeFactorial(levels, rows);
        return rows;
    }

    public int addSum(int c, int a, int d, int b) {
        if (!now.hasColumn(c) || !now.hasColumn(d) || now.sizes[c] != now.sizes[d]) {
            return BAD;
        }
        if (a < 0 || a > MAX_FACTOR || b < 0 || b > MAX_FACTOR) {
            return BAD;
        }
        if (now.columns >= MAX_COLUMNS) {
            return FULL;
        }
        record();
        int size = now.sizes[c];
        int added = now.append(size);
        for (int r = 0; r < now.rows; r++) {
            now.set(r, added, (a * now.at(r, c) + b * now.at(r, d)) % size);
        }
        return added;
    }

    public int replace(int c, int i) {
        if (!now.hasColumn(c) || !isImage(i)) {
            return BAD;
        }
        if (!keeps[i] || images[i].rows != now.sizes[c]) {
            return STATE;
        }
        if (now.columns - 1 + images[i].columns > MAX_COLUMNS) {
            return FULL;
        }
        Table before = record();
        now.becomeReplaced(before, c, images[i]);
        return now.columns;
    }

    public int develop() {
        if (now.rows == 0 || !now.isScheme()) {
            return STATE;
        }
        int added = now.rows >= MIN_LEVELS && now.rows <= MAX_LEVELS ? 1 : 0;
        if (now.rows * now.sizes[0] > MAX_ROWS || now.columns + added > MAX_COLUMNS) {
            return FULL;
        }
        Table before = record();
        now.becomeDeveloped(before, added == 1);
        return now.rows;
    }

    public int undo() {
        if (history.size == 0) {
            return STATE;
        }
        history.pop(now);
        forgetResults();
        return history.size;
    }

    // ---- the text

    public int write(int code) {
        if (code < 32 || code > 126) {
            return BAD;
        }
        if (script.length >= MAX_TEXT) {
            return FULL;
        }
        return script.append(code);
    }

    public int wipe() {
        int before = script.length;
        script.length = 0;
        return before;
    }

    public int fault() {
        return script.firstFault();
    }

    public int load() {
        if (script.firstFault() != NONE) {
            return STATE;
        }
        record();
        script.readInto(now);
        return now.rows;
    }

    // ---- what is told

    public int told(int what) {
        switch (what) {
            case 0:
                return now.rows;
            case 1:
                return now.columns;
            case 2:
                return census.strengthOf(now);
            case 3:
                return now.copies();
            case 4:
                return now.isScheme() ? 1 : 0;
            case 5:
                return now.leastRows();
            case 6:
                return now.rowsDivisor();
            case 7:
                return history.size;
            case 8:
                return script.length;
            default:
                return BAD;
        }
    }

    public int levels(int c) {
        return now.hasColumn(c) ? now.sizes[c] : BAD;
    }

    public int cell(int r, int c) {
        return now.hasRow(r) && now.hasColumn(c) ? now.at(r, c) : BAD;
    }

    public int count(int set, int tuple) {
        if (set < 0 || set >= 1 << now.columns || tuple < 0 || tuple >= now.tuples(set)) {
            return BAD;
        }
        int found = 0;
        for (int r = 0; r < now.rows; r++) {
            if (now.tupleOf(r, set) == tuple) {
                found++;
            }
        }
        return found;
    }

    public int audit(int t, int what) {
        if (t < 0 || t > now.columns) {
            return BAD;
        }
        switch (what) {
            case 0:
                return census.unbalancedSets(now, t);
            case 1:
                return census.firstUnbalanced(now, t, now.allRows());
            case 2:
                return census.greatestTally(now, t);
            case 3:
                return census.leastTally(now, t);
            default:
                return BAD;
        }
    }

    public int agreement(int r, int q) {
        return now.hasRow(r) && now.hasRow(q) ? now.agreements(r, q) : BAD;
    }

    public int pairs(int many) {
        if (many < 0 || many > MAX_COLUMNS) {
            return BAD;
        }
        int found = 0;
        for (int r = 1; r < now.rows; r++) {
            for (int q = 0; q < r; q++) {
                if (now.agreements(r, q) == many) {
                    found++;
                }
            }
        }
        return found;
    }

    // ---- columns that can be added, and rows that can be spared

    public int extension(int levels, int r) {
        if (!isLevelCount(levels) || (r != -1 && !now.hasRow(r))) {
            return BAD;
        }
        if (now.rows == 0 || now.rows > EXTENSION_ROWS) {
            return STATE;
        }
        if (!hasExtension(levels)) {
            return NONE;
        }
        return r == -1 ? now.rows : search.column[r];
    }

    public int extend(int levels) {
        if (!isLevelCount(levels)) {
            return BAD;
        }
        if (now.rows == 0 || now.rows > EXTENSION_ROWS) {
            return STATE;
        }
        if (now.columns >= MAX_COLUMNS) {
            return FULL;
        }
        if (!hasExtension(levels)) {
            return NONE;
        }
        record();
        int added = now.append(levels);
        for (int r = 0; r < now.rows; r++) {
            now.set(r, added, search.column[r]);
        }
        return added;
    }

    public int spare(int t) {
        if (t < 1 || t > now.columns) {
            return BAD;
        }
        if (now.rows == 0 || now.rows > SPARE_ROWS) {
            return STATE;
        }
        return census.sparedRows(now, t);
    }

    // ---- images and isomorphisms

    public int keep(int i) {
        if (!isImage(i)) {
            return BAD;
        }
        images[i].copyFrom(now);
        keeps[i] = true;
        forgetResults();
        return now.rows;
    }

    public int back(int i) {
        if (!isImage(i)) {
            return BAD;
        }
        if (!keeps[i]) {
            return STATE;
        }
        record();
        now.copyFrom(images[i]);
        return now.rows;
    }

    public int isIsomorphic(int i) {
        if (!isImage(i)) {
            return BAD;
        }
        if (!canMatch(i)) {
            return STATE;
        }
        return hasMatch(i) ? 1 : 0;
    }

    public int mapped(int i, int c, int v) {
        if (!isImage(i) || !now.hasColumn(c) || v < -1 || v >= now.sizes[c]) {
            return BAD;
        }
        if (!canMatch(i)) {
            return STATE;
        }
        if (!hasMatch(i)) {
            return NONE;
        }
        return v == -1 ? matcher.columnImages[c] : matcher.levelImages[c * MATCH_LEVELS + v];
    }

    // ---- what the methods share

    /** Keeps the array for undo() before a change; the state that is returned stays until the next change. */
    private Table record() {
        forgetResults();
        return history.push(now);
    }

    private void forgetResults() {
        searchedLevels = 0;
        matchedImage = -1;
    }

    private boolean hasExtension(int levels) {
        if (searchedLevels != levels) {
            searchFound = search.find(now, levels);
            searchedLevels = levels;
        }
        return searchFound;
    }

    private boolean canMatch(int i) {
        if (!keeps[i] || now.rows > MATCH_ROWS) {
            return false;
        }
        for (int c = 0; c < now.columns; c++) {
            if (now.sizes[c] > MATCH_LEVELS) {
                return false;
            }
        }
        return true;
    }

    private boolean hasMatch(int i) {
        if (matchedImage != i) {
            matchFound = matcher.find(now, images[i]);
            matchedImage = i;
        }
        return matchFound;
    }

    private static boolean isImage(int i) {
        return i >= 0 && i < IMAGES;
    }

    private static boolean isLevelCount(int levels) {
        return levels >= MIN_LEVELS && levels <= MAX_LEVELS;
    }

    private static boolean areLevelCounts(int digits) {
        for (int rest = digits; rest > 0; rest /= 10) {
            if (!isLevelCount(rest % 10)) {
                return false;
            }
        }
        return true;
    }

    /** Rows and columns of levels. */
    private static final class Table {
        int rows = 0;
        int columns = 0;
        final int[] sizes = new int[MAX_COLUMNS];
        private final int[] cells = new int[MAX_ROWS * MAX_COLUMNS];

        boolean hasRow(int r) {
            return r >= 0 && r < rows;
        }

        boolean hasColumn(int c) {
            return c >= 0 && c < columns;
        }

        int at(int r, int c) {
            return cells[r * MAX_COLUMNS + c];
        }

        void set(int r, int c, int level) {
            cells[r * MAX_COLUMNS + c] = level;
        }

        long allRows() {
            return (1L << rows) - 1;
        }

        void copyFrom(Table other) {
            rows = other.rows;
            columns = other.columns;
            System.arraycopy(other.sizes, 0, sizes, 0, MAX_COLUMNS);
            System.arraycopy(other.cells, 0, cells, 0, MAX_ROWS * MAX_COLUMNS);
        }

        void reset(int newRows) {
            rows = newRows;
            columns = 0;
        }

        int append(int size) {
            int added = columns;
            columns++;
            sizes[added] = size;
            for (int r = 0; r < rows; r++) {
                set(r, added, 0);
            }
            return added;
        }

        void removeColumn(int c) {
            columns--;
            for (int d = c; d < columns; d++) {
                sizes[d] = sizes[d + 1];
                for (int r = 0; r < rows; r++) {
                    set(r, d, at(r, d + 1));
                }
            }
        }

        void removeRow(int r) {
            rows--;
            for (int q = r; q < rows; q++) {
                copyRow(q + 1, q);
            }
        }

        private void copyRow(int source, int destination) {
            for (int c = 0; c < columns; c++) {
                set(destination, c, at(source, c));
            }
        }

        void removeCopies() {
            int kept = 0;
            for (int r = 0; r < rows; r++) {
                if (!occursBefore(r, kept)) {
                    copyRow(r, kept);
                    kept++;
                }
            }
            rows = kept;
        }

        int copies() {
            int found = 0;
            for (int r = 0; r < rows; r++) {
                if (occursBefore(r, r)) {
                    found++;
                }
            }
            return found;
        }

        private boolean occursBefore(int r, int end) {
            for (int q = 0; q < end; q++) {
                if (order(q, r) == 0) {
                    return true;
                }
            }
            return false;
        }

        /** Less than, equal to or greater than 0, as row r stands to row q. */
        int order(int r, int q) {
            for (int c = 0; c < columns; c++) {
                int difference = at(r, c) - at(q, c);
                if (difference != 0) {
                    return difference;
                }
            }
            return 0;
        }

        /** Sorting by swaps of neighbours swaps each pair in the wrong order once, so the swaps are the answer. */
        int sortRows() {
            int swaps = 0;
            for (int r = 1; r < rows; r++) {
                for (int q = r; q > 0 && order(q - 1, q) > 0; q--) {
                    swapRows(q - 1, q);
                    swaps++;
                }
            }
            return swaps;
        }

        private void swapRows(int r, int q) {
            for (int c = 0; c < columns; c++) {
                int level = at(r, c);
                set(r, c, at(q, c));
                set(q, c, level);
            }
        }

        int agreements(int r, int q) {
            int same = 0;
            for (int c = 0; c < columns; c++) {
                if (at(r, c) == at(q, c)) {
                    same++;
                }
            }
            return same;
        }

        int tuples(int set) {
            int product = 1;
            for (int c = 0; c < columns; c++) {
                if (((set >> c) & 1) == 1) {
                    product *= sizes[c];
                }
            }
            return product;
        }

        int tupleOf(int r, int set) {
            int number = 0;
            for (int c = 0; c < columns; c++) {
                if (((set >> c) & 1) == 1) {
                    number = number * sizes[c] + at(r, c);
                }
            }
            return number;
        }

        int leastRows() {
            int sum = 1;
            for (int c = 0; c < columns; c++) {
                sum += sizes[c] - 1;
            }
            return sum;
        }

        int rowsDivisor() {
            int multiple = 1;
            for (int d = 1; d < columns; d++) {
                for (int c = 0; c < d; c++) {
                    multiple = leastCommonMultiple(multiple, sizes[c] * sizes[d]);
                }
            }
            return multiple;
        }

        private static int leastCommonMultiple(int a, int b) {
            for (int multiple = a; multiple < a * b; multiple += a) {
                if (multiple % b == 0) {
                    return multiple;
                }
            }
            return a * b;
        }

        boolean isScheme() {
            for (int c = 0; c < columns; c++) {
                if (sizes[c] != sizes[0]) {
                    return false;
                }
            }
            for (int d = 1; d < columns; d++) {
                for (int c = 0; c < d; c++) {
                    if (!hasEvenDifferences(c, d)) {
                        return false;
                    }
                }
            }
            return columns > 0;
        }

        private boolean hasEvenDifferences(int c, int d) {
            int size = sizes[c];
            for (int value = 0; value < size; value++) {
                int found = 0;
                for (int r = 0; r < rows; r++) {
                    if ((at(r, d) - at(r, c) + size) % size == value) {
                        found++;
                    }
                }
                if (found * size != rows) {
                    return false;
                }
            }
            return true;
        }

        void becomeFactorial(int digits, int newRows) {
            reset(newRows);
            for (int unit = 1000000; unit > 0; unit /= 10) {
                int digit = digits / unit % 10;
                if (digit > 0) {
                    append(digit);
                }
            }
            int step = 1;
            for (int c = columns - 1; c >= 0; c--) {
                for (int r = 0; r < rows; r++) {
                    set(r, c, r / step % sizes[c]);
                }
                step *= sizes[c];
            }
        }

        void becomeReplaced(Table old, int c, Table image) {
            reset(old.rows);
            for (int d = 0; d < c; d++) {
                appendCopy(old, d);
            }
            for (int d = 0; d < image.columns; d++) {
                int added = append(image.sizes[d]);
                for (int r = 0; r < rows; r++) {
                    set(r, added, image.at(old.at(r, c), d));
                }
            }
            for (int d = c + 1; d < old.columns; d++) {
                appendCopy(old, d);
            }
        }

        private void appendCopy(Table old, int d) {
            int added = append(old.sizes[d]);
            for (int r = 0; r < rows; r++) {
                set(r, added, old.at(r, d));
            }
        }

        void becomeDeveloped(Table scheme, boolean numbered) {
            int size = scheme.sizes[0];
            reset(scheme.rows * size);
            for (int c = 0; c < scheme.columns; c++) {
                append(size);
                for (int r = 0; r < rows; r++) {
                    set(r, c, (scheme.at(r / size, c) + r % size) % size);
                }
            }
            if (numbered) {
                int added = append(scheme.rows);
                for (int r = 0; r < rows; r++) {
                    set(r, added, r / size);
                }
            }
        }
    }

    /** The latest states, in a ring. */
    private static final class History {
        int size = 0;
        private int first = 0;
        private final Table[] states = new Table[MAX_STATES];

        History() {
            for (int i = 0; i < MAX_STATES; i++) {
                states[i] = new Table();
            }
        }

        Table push(Table table) {
            if (size == MAX_STATES) {
                first = (first + 1) % MAX_STATES;
            } else {
                size++;
            }
            Table state = states[(first + size - 1) % MAX_STATES];
            state.copyFrom(table);
            return state;
        }

        void pop(Table table) {
            if (size > 0) {
                table.copyFrom(states[(first + size - 1) % MAX_STATES]);
                size--;
            }
        }
    }

    /** The text from which an array can be read. */
    private static final class Script {
        int length = 0;
        private final int[] codes = new int[MAX_TEXT];

        int append(int code) {
            codes[length] = code;
            length++;
            return length;
        }

        int firstFault() {
            int columns = headLength();
            if (columns == 0) {
                return 0;
            }
            int place = columns;
            for (int row = 0; place < length; row++) {
                if (row == MAX_ROWS || codes[place] != '/') {
                    return place;
                }
                place++;
                for (int c = 0; c < columns; c++) {
                    if (place >= length || digit(place) < 0 || digit(place) >= digit(c)) {
                        return place;
                    }
                    place++;
                }
            }
            return NONE;
        }

        private int headLength() {
            int columns = 0;
            while (columns < length && columns < MAX_COLUMNS && isLevelCount(digit(columns))) {
                columns++;
            }
            return columns;
        }

        private int digit(int place) {
            return codes[place] - '0';
        }

        /** Only for a text without a fault. */
        void readInto(Table table) {
            int columns = headLength();
            table.reset((length - columns) / (columns + 1));
            for (int c = 0; c < columns; c++) {
                table.append(digit(c));
                for (int r = 0; r < table.rows; r++) {
                    table.set(r, c, digit(columns + r * (columns + 1) + 1 + c));
                }
            }
        }
    }

    /** Counts tuples. Sets of rows are numbers in which bit r stands for row r. */
    private static final class Census {
        private final int[] tallies = new int[MAX_ROWS];
        private final int[] numbers = new int[MAX_ROWS];

        boolean isBalanced(Table table, int set, long rows) {
            int count = Long.bitCount(rows);
            int tuples = table.tuples(set);
            if (tuples > count) {
                return count == 0;
            }
            if (count % tuples != 0) {
                return false;
            }
            int share = count / tuples;
            clearTallies(tuples);
            for (int r = 0; r < table.rows; r++) {
                if (((rows >> r) & 1) == 1) {
                    int tuple = table.tupleOf(r, set);
                    tallies[tuple]++;
                    // A tuple above its share leaves another one below it.
                    if (tallies[tuple] > share) {
                        return false;
                    }
                }
            }
            return true;
        }

        private void clearTallies(int many) {
            for (int i = 0; i < many; i++) {
                tallies[i] = 0;
            }
        }

        int firstUnbalanced(Table table, int t, long rows) {
            for (int set = 0; set < 1 << table.columns; set++) {
                if (Integer.bitCount(set) == t && !isBalanced(table, set, rows)) {
                    return set;
                }
            }
            return NONE;
        }

        int unbalancedSets(Table table, int t) {
            int found = 0;
            for (int set = 0; set < 1 << table.columns; set++) {
                if (Integer.bitCount(set) == t && !isBalanced(table, set, table.allRows())) {
                    found++;
                }
            }
            return found;
        }

        /** Balance in each set of t columns gives balance in each smaller set, so the first failure ends it. */
        int strengthOf(Table table) {
            int strength = 0;
            while (strength < table.columns
                    && firstUnbalanced(table, strength + 1, table.allRows()) == NONE) {
                strength++;
            }
            return strength;
        }

        int greatestTally(Table table, int t) {
            int most = 0;
            for (int set = 0; set < 1 << table.columns; set++) {
                if (Integer.bitCount(set) == t) {
                    int used = tally(table, set);
                    for (int i = 0; i < used; i++) {
                        most = Math.max(most, tallies[i]);
                    }
                }
            }
            return most;
        }

        int leastTally(Table table, int t) {
            int least = table.rows;
            for (int set = 0; set < 1 << table.columns; set++) {
                if (Integer.bitCount(set) == t) {
                    if (table.tuples(set) > table.rows) {
                        return 0;
                    }
                    int used = tally(table, set);
                    for (int i = 0; i < used; i++) {
                        least = Math.min(least, tallies[i]);
                    }
                }
            }
            return least;
        }

        /** Tallies all tuples, or where there are more than rows can be, those that occur; tells how many. */
        private int tally(Table table, int set) {
            int tuples = table.tuples(set);
            if (tuples > MAX_ROWS) {
                return tallyOccurring(table, set);
            }
            clearTallies(tuples);
            for (int r = 0; r < table.rows; r++) {
                tallies[table.tupleOf(r, set)]++;
            }
            return tuples;
        }

        private int tallyOccurring(Table table, int set) {
            int used = 0;
            for (int r = 0; r < table.rows; r++) {
                int tuple = table.tupleOf(r, set);
                int i = 0;
                while (i < used && numbers[i] != tuple) {
                    i++;
                }
                if (i == used) {
                    numbers[i] = tuple;
                    tallies[i] = 0;
                    used++;
                }
                tallies[i]++;
            }
            return used;
        }

        int sparedRows(Table table, int t) {
            int all = (int) table.allRows();
            if (firstUnbalanced(table, t, all) != NONE) {
                return NONE;
            }
            int best = 0;
            int most = 0;
            for (int spared = 1; spared < all; spared++) {
                int many = Integer.bitCount(spared);
                if (many > most && firstUnbalanced(table, t, all & ~spared) == NONE) {
                    best = spared;
                    most = many;
                }
            }
            return best;
        }
    }

    /** Finds the smallest column that can be appended, row by row. */
    private static final class ColumnSearch {
        final int[] column = new int[EXTENSION_ROWS];
        private Table table = new Table();
        private int levels = 0;
        private final int[] equalBefore = new int[EXTENSION_ROWS];
        // How often a new level may still stand beside a level of a column, and at all.
        private final int[][] left = new int[MAX_COLUMNS * MAX_LEVELS][MAX_LEVELS];
        private final int[] leftAlone = new int[MAX_LEVELS];

        boolean find(Table given, int newLevels) {
            table = given;
            levels = newLevels;
            if (!canBalance()) {
                return false;
            }
            for (int r = 0; r < table.rows; r++) {
                equalBefore[r] = lastEqualBefore(r);
            }
            return place(0, 0);
        }

        /** Sets the shares; tells whether they are whole and the columns even. */
        private boolean canBalance() {
            if (table.rows % levels != 0) {
                return false;
            }
            for (int g = 0; g < levels; g++) {
                leftAlone[g] = table.rows / levels;
            }
            for (int c = 0; c < table.columns; c++) {
                int tuples = table.sizes[c] * levels;
                if (table.rows % tuples != 0 || !isEven(c)) {
                    return false;
                }
                for (int v = 0; v < table.sizes[c]; v++) {
                    for (int g = 0; g < levels; g++) {
                        left[c * MAX_LEVELS + v][g] = table.rows / tuples;
                    }
                }
            }
            return true;
        }

        private boolean isEven(int c) {
            for (int v = 0; v < table.sizes[c]; v++) {
                int found = 0;
                for (int r = 0; r < table.rows; r++) {
                    if (table.at(r, c) == v) {
                        found++;
                    }
                }
                if (found * table.sizes[c] != table.rows) {
                    return false;
                }
            }
            return true;
        }

        private int lastEqualBefore(int r) {
            for (int q = r - 1; q >= 0; q--) {
                if (table.order(q, r) == 0) {
                    return q;
                }
            }
            return -1;
        }

        /**
         * Renaming the new levels, or swapping them between equal rows, keeps the balance. So in the smallest
         * column new levels first occur in ascending order, and never descend from a row to an equal one.
         */
        private boolean place(int r, int used) {
            if (r >= table.rows || r >= EXTENSION_ROWS) {
                return true;
            }
            int lowest = equalBefore[r] < 0 ? 0 : column[equalBefore[r]];
            int highest = Math.min(used, levels - 1);
            for (int g = lowest; g <= highest; g++) {
                if (fits(r, g)) {
                    column[r] = g;
                    use(r, g, -1);
                    if (place(r + 1, Math.max(used, g + 1))) {
                        return true;
                    }
                    use(r, g, 1);
                }
            }
            return false;
        }

        private boolean fits(int r, int g) {
            if (leftAlone[g] == 0) {
                return false;
            }
            for (int c = 0; c < table.columns; c++) {
                if (left[c * MAX_LEVELS + table.at(r, c)][g] == 0) {
                    return false;
                }
            }
            return true;
        }

        private void use(int r, int g, int step) {
            leftAlone[g] += step;
            for (int c = 0; c < table.columns; c++) {
                left[c * MAX_LEVELS + table.at(r, c)][g] += step;
            }
        }
    }

    /**
     * Finds the smallest isomorphism: column after column, each to the first column and by the first order of
     * levels that lead to one. Keys that an isomorphism cannot change tell early what leads to none.
     */
    private static final class Matcher {
        final int[] columnImages = new int[MAX_COLUMNS];
        final int[] levelImages = new int[MAX_COLUMNS * MATCH_LEVELS];
        private final Side from = new Side();
        private final Side to = new Side();
        private final int[] mappedRow = new int[MAX_COLUMNS];

        boolean find(Table source, Table destination) {
            if (source.rows != destination.rows || source.columns != destination.columns
                    || !haveSameSizes(source, destination)) {
                return false;
            }
            from.start(source);
            to.start(destination);
            if (from.summary(0) != to.summary(0)) {
                return false;
            }
            // The labels of this side are the same whatever the images, so its keys are made once.
            for (int c = 0; c < source.columns; c++) {
                from.labelColumn(c);
                from.refine(c + 1);
            }
            return assign(0);
        }

        private static boolean haveSameSizes(Table a, Table b) {
            for (int size = MIN_LEVELS; size <= MAX_LEVELS; size++) {
                int surplus = 0;
                for (int c = 0; c < a.columns; c++) {
                    surplus += a.sizes[c] == size ? 1 : 0;
                    surplus -= b.sizes[c] == size ? 1 : 0;
                }
                if (surplus != 0) {
                    return false;
                }
            }
            return true;
        }

        private boolean assign(int c) {
            if (c >= from.table.columns || c >= MAX_COLUMNS) {
                return mapsRows();
            }
            int tried = 0;
            for (int d = 0; d < to.table.columns; d++) {
                if (canMap(c, d) && !to.hasTwin(d, tried)) {
                    if (assignLevels(c, d)) {
                        return true;
                    }
                    tried |= 1 << d;
                }
            }
            return false;
        }

        /** When column c is assigned, c columns are labelled, so c is the depth too. */
        private boolean canMap(int c, int d) {
            return !to.isLabelled(d) && from.table.sizes[c] == to.table.sizes[d]
                    && from.columnKeys[c][c] == to.columnKeys[c][d];
        }

        private boolean assignLevels(int c, int d) {
            int start = c * MATCH_LEVELS;
            int size = from.table.sizes[c];
            for (int v = 0; v < size; v++) {
                levelImages[start + v] = v;
            }
            columnImages[c] = d;
            boolean more = true;
            for (int turn = 0; turn < MATCH_ORDERS && more; turn++) {
                if (suits(c, d)) {
                    labelImages(c, d, true);
                    to.refine(c + 1);
                    if (from.summary(c + 1) == to.summary(c + 1) && assign(c + 1)) {
                        return true;
                    }
                    labelImages(c, d, false);
                }
                more = nextOrder(start, size);
            }
            return false;
        }

        /** Levels that never occur are alike: only their ascending order is tried. */
        private boolean suits(int c, int d) {
            int lastUnused = -1;
            for (int v = 0; v < from.table.sizes[c]; v++) {
                int image = levelImages[c * MATCH_LEVELS + v];
                if (from.levelKeys[c][c * MATCH_LEVELS + v] != to.levelKeys[c][d * MATCH_LEVELS + image]) {
                    return false;
                }
                if (from.tallies[c * MATCH_LEVELS + v] == 0) {
                    if (image < lastUnused) {
                        return false;
                    }
                    lastUnused = image;
                }
            }
            return true;
        }

        private void labelImages(int c, int d, boolean on) {
            to.columnLabels[d] = on ? from.columnLabels[c] : 0;
            for (int v = 0; v < from.table.sizes[c]; v++) {
                int place = c * MATCH_LEVELS + v;
                to.levelLabels[d * MATCH_LEVELS + levelImages[place]] = on ? from.levelLabels[place] : 0;
            }
        }

        /** Makes the next order of the images of a column's levels, lexicographically, if there is one. */
        private boolean nextOrder(int start, int size) {
            int low = start + size - 2;
            while (low >= start && levelImages[low] > levelImages[low + 1]) {
                low--;
            }
            if (low < start) {
                return false;
            }
            int high = start + size - 1;
            while (high > low + 1 && levelImages[high] < levelImages[low]) {
                high--;
            }
            swapImages(low, high);
            int right = start + size - 1;
            for (int left = low + 1; left < right; left++) {
                swapImages(left, right);
                right--;
            }
            return true;
        }

        private void swapImages(int i, int j) {
            int image = levelImages[i];
            levelImages[i] = levelImages[j];
            levelImages[j] = image;
        }

        /** Keys may be equal by chance, so the whole mapping is proved on the rows. */
        private boolean mapsRows() {
            int used = 0;
            for (int r = 0; r < from.table.rows; r++) {
                for (int c = 0; c < from.table.columns; c++) {
                    mappedRow[columnImages[c]] = levelImages[c * MATCH_LEVELS + from.table.at(r, c)];
                }
                int q = unusedEqual(used);
                if (q < 0) {
                    return false;
                }
                used |= 1 << q;
            }
            return true;
        }

        /** A row of the other array that is not used yet and equal to the mapped row, or -1. */
        private int unusedEqual(int used) {
            for (int q = 0; q < to.table.rows; q++) {
                boolean fits = ((used >> q) & 1) == 0;
                for (int d = 0; d < to.table.columns && fits; d++) {
                    fits = to.table.at(q, d) == mappedRow[d];
                }
                if (fits) {
                    return q;
                }
            }
            return -1;
        }
    }

    /**
     * One of the two arrays of a match, with keys of its rows, levels and columns. They are built in the same way
     * on both sides, from counts and labels alone, so an isomorphism that keeps the labels keeps the keys.
     * The keys of depth n go with n labelled columns.
     */
    private static final class Side {
        Table table = new Table();
        final int[] columnLabels = new int[MAX_COLUMNS];
        final int[] levelLabels = new int[MAX_COLUMNS * MATCH_LEVELS];
        final int[] tallies = new int[MAX_COLUMNS * MATCH_LEVELS];
        final long[][] rowKeys = new long[MAX_COLUMNS + 1][MATCH_ROWS];
        final long[][] levelKeys = new long[MAX_COLUMNS + 1][MAX_COLUMNS * MATCH_LEVELS];
        final long[][] columnKeys = new long[MAX_COLUMNS + 1][MAX_COLUMNS];
        private final int[] levelTwins = new int[MATCH_LEVELS];

        void start(Table given) {
            table = given;
            clearLabels();
            long[] keys = rowKeys[0];
            for (int r = 0; r < table.rows; r++) {
                keys[r] = 0;
                for (int q = 0; q < r; q++) {
                    long key = mix(table.agreements(r, q));
                    keys[r] += key;
                    keys[q] += key;
                }
                for (int c = 0; c < table.columns; c++) {
                    tallies[c * MATCH_LEVELS + table.at(r, c)]++;
                }
            }
            for (int r = 0; r < table.rows; r++) {
                keys[r] = mix(keys[r]);
            }
            refine(0);
        }

        private void clearLabels() {
            for (int c = 0; c < MAX_COLUMNS; c++) {
                columnLabels[c] = 0;
            }
            for (int i = 0; i < MAX_COLUMNS * MATCH_LEVELS; i++) {
                levelLabels[i] = 0;
                tallies[i] = 0;
            }
        }

        void labelColumn(int c) {
            columnLabels[c] = c + 1;
            for (int v = 0; v < table.sizes[c]; v++) {
                levelLabels[c * MATCH_LEVELS + v] = v + 1;
            }
        }

        boolean isLabelled(int c) {
            return columnLabels[c] != 0;
        }

        void refine(int depth) {
            if (depth > 0) {
                System.arraycopy(rowKeys[depth - 1], 0, rowKeys[depth], 0, MATCH_ROWS);
            }
            gather(rowKeys[depth], levelKeys[depth], columnKeys[depth]);
            spread(rowKeys[depth], levelKeys[depth]);
            gather(rowKeys[depth], levelKeys[depth], columnKeys[depth]);
        }

        /** The keys of columns and levels from the keys of the rows. */
        private void gather(long[] ofRows, long[] ofLevels, long[] ofColumns) {
            for (int c = 0; c < table.columns; c++) {
                int start = c * MATCH_LEVELS;
                int end = start + table.sizes[c];
                for (int place = start; place < end; place++) {
                    ofLevels[place] = 0;
                }
                for (int r = 0; r < table.rows; r++) {
                    ofLevels[start + table.at(r, c)] += ofRows[r];
                }
                long sum = table.sizes[c] * (MAX_COLUMNS + 1) + columnLabels[c];
                for (int place = start; place < end; place++) {
                    ofLevels[place] = mix(ofLevels[place] + levelLabels[place]);
                    sum += ofLevels[place];
                }
                ofColumns[c] = mix(sum);
                for (int place = start; place < end; place++) {
                    ofLevels[place] = mix(ofLevels[place] + ofColumns[c]);
                }
            }
        }

        /** The keys of the rows from the keys of their levels. */
        private void spread(long[] ofRows, long[] ofLevels) {
            for (int r = 0; r < table.rows; r++) {
                long sum = ofRows[r];
                for (int c = 0; c < table.columns; c++) {
                    sum += ofLevels[c * MATCH_LEVELS + table.at(r, c)];
                }
                ofRows[r] = mix(sum);
            }
        }

        long summary(int depth) {
            long sum = 0;
            for (int r = 0; r < table.rows; r++) {
                sum += rowKeys[depth][r];
            }
            for (int c = 0; c < table.columns; c++) {
                sum += columnKeys[depth][c];
            }
            return sum;
        }

        private static long mix(long key) {
            long mixed = (key + 1) * 0x9E3779B97F4A7C15L;
            mixed = (mixed ^ (mixed >>> 32)) * 0xD6E8FEB86659FD93L;
            return mixed ^ (mixed >>> 32);
        }

        /** Whether one of the tried columns parts the rows as this one does: then this one fares no better. */
        boolean hasTwin(int d, int tried) {
            for (int e = 0; e < d; e++) {
                if (((tried >> e) & 1) == 1 && areTwins(d, e)) {
                    return true;
                }
            }
            return false;
        }

        private boolean areTwins(int d, int e) {
            if (table.sizes[d] != table.sizes[e]) {
                return false;
            }
            int taken = 0;
            for (int v = 0; v < MATCH_LEVELS; v++) {
                levelTwins[v] = -1;
            }
            for (int r = 0; r < table.rows; r++) {
                int v = table.at(r, d);
                int w = table.at(r, e);
                if (levelTwins[v] < 0 && ((taken >> w) & 1) == 0) {
                    levelTwins[v] = w;
                    taken |= 1 << w;
                }
                if (levelTwins[v] != w) {
                    return false;
                }
            }
            return true;
        }
    }
}
