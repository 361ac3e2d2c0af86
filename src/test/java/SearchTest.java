import java.util.ArrayList;
import java.util.Arrays;
import java.util.List;
import java.util.Random;

/**
 * Columns that can be added, rows that can be spared, isomorphisms and strengths of small arrays, against all that
 * could be, tried one by one in the order of the document, without any short cut.
 */
public final class SearchTest {
    private static final int NONE = -9;
    private static final int MOST_COLUMNS_TRIED = 70_000;
    private static final int MOST_ROWS_SPARED = 9;
    private static final int[][] SIZES = {{2, 2, 2, 2, 2}, {2, 2, 2, 2, 2, 2}, {3, 3, 3}, {3, 3, 3, 2}, {4, 4, 2},
        {4, 4}, {4, 3, 2}, {3, 3, 3, 3}, {2, 2, 2, 2, 3}, {2, 3}, {4}, {2}, {4, 4, 3}, {2, 2, 2}};
    private static final int[] EVEN_ROWS = {2, 4, 4, 6, 6, 8, 8, 8, 9, 12, 16, 18};
    private static final List<List<int[]>> ORDERS = new ArrayList<>();
    private static int answers = 0;
    private static int wrong = 0;

    public static void main(String[] args) {
        int arrays = args.length > 0 ? Integer.parseInt(args[0]) : 600;
        Random random = new Random(arrays);
        for (int many = 0; many <= 6; many++) {
            ORDERS.add(new ArrayList<>());
            addOrders(new int[many], 0, ORDERS.get(many));
        }
        for (int k = 0; k < arrays; k++) {
            compare(random);
        }
        System.out.println(answers + " answers on " + arrays + " arrays compared, " + wrong + " wrong");
        if (wrong != 0) {
            System.exit(1);
        }
    }

    private static void due(Grid grid, String call, int got, int want) {
        answers++;
        if (got != want) {
            wrong++;
            if (wrong <= 10) {
                System.out.println("[" + grid.text() + "] " + call + " answered " + got + ", due is " + want);
            }
        }
    }

    private static void compare(Random random) {
        Grid array = Grid.made(random);
        Grid other = array.disguised(random);
        int image = random.nextInt(2);
        ArrayBench bench = new ArrayBench();
        load(bench, other.text());
        bench.keep(image);
        load(bench, array.text());
        comparesIsomorphisms(bench, array, other, image);
        if (array.rows.length > 0 && array.rows.length <= 16) {
            comparesColumns(bench, array);
        }
        due(array, "told(2)", bench.told(2), array.strength(array.allRows()));
        for (int t = 1; t <= array.sizes.length && array.isSmall(); t++) {
            due(array, "spare(" + t + ")", bench.spare(t), array.spared(t));
        }
    }

    private static void load(ArrayBench bench, String text) {
        bench.wipe();
        for (char code : text.toCharArray()) {
            bench.write(code);
        }
        bench.load();
    }

    private static void comparesIsomorphisms(ArrayBench bench, Grid array, Grid other, int image) {
        List<Integer> list = new ArrayList<>();
        boolean found = array.findsList(other, list, new Grid(other.sizes, new int[array.rows.length][]), 0);
        due(array, "isIsomorphic to " + other.text(), bench.isIsomorphic(image), found ? 1 : 0);
        int place = 0;
        for (int c = 0; c < array.sizes.length; c++) {
            for (int v = -1; v < array.sizes[c]; v++) {
                String call = "mapped(" + c + ", " + v + ") to " + other.text();
                due(array, call, bench.mapped(image, c, v), found ? list.get(place) : NONE);
                place++;
            }
        }
    }

    private static void comparesColumns(ArrayBench bench, Grid array) {
        for (int levels = 2; levels <= 6; levels++) {
            if (Math.pow(levels, array.rows.length) <= MOST_COLUMNS_TRIED) {
                int[] column = new int[array.rows.length];
                boolean found = array.accepts(column, levels);
                while (!found && isNext(column, levels)) {
                    found = array.accepts(column, levels);
                }
                for (int r = -1; r < column.length; r++) {
                    int want = !found ? NONE : r == -1 ? column.length : column[r];
                    due(array, "extension(" + levels + ", " + r + ")", bench.extension(levels, r), want);
                }
            }
        }
    }

    /** Makes the next column of all, in lexicographical order, if there is one. */
    private static boolean isNext(int[] column, int levels) {
        int r = column.length - 1;
        while (r >= 0 && column[r] == levels - 1) {
            column[r] = 0;
            r--;
        }
        if (r >= 0) {
            column[r]++;
        }
        return r >= 0;
    }

    private static void addOrders(int[] order, int filled, List<int[]> all) {
        if (filled == order.length) {
            all.add(order.clone());
            return;
        }
        for (int v = 0; v < order.length; v++) {
            int level = v;
            if (Arrays.stream(order, 0, filled).noneMatch(used -> used == level)) {
                order[filled] = v;
                addOrders(order, filled + 1, all);
            }
        }
    }

    private static int[] anyOrder(Random random, int many) {
        return ORDERS.get(many).get(random.nextInt(ORDERS.get(many).size()));
    }

    private static final class Grid {
        final int[] sizes;
        final int[][] rows;

        Grid(int[] sizes, int[][] rows) {
            this.sizes = sizes;
            this.rows = rows;
        }

        /** Cells at random, or in one of two regular patterns; often with some rows several times. */
        static Grid made(Random random) {
            int[] sizes = SIZES[random.nextInt(SIZES.length)];
            int many = random.nextInt(3) == 0 ? random.nextInt(19) : EVEN_ROWS[random.nextInt(EVEN_ROWS.length)];
            int[][] rows = new int[many][sizes.length];
            int pattern = random.nextInt(4);
            int different = random.nextInt(3) == 0 ? (rows.length + 1) / 2 : rows.length;
            for (int r = 0; r < rows.length; r++) {
                int k = r % different;
                for (int c = 0; c < sizes.length; c++) {
                    int level = pattern == 0 ? k >> c % 4 : k * (c % 3 + 1) + k / sizes[c] * (c % 2);
                    rows[r][c] = (pattern > 1 ? random.nextInt(sizes[c]) : level) % sizes[c];
                }
            }
            for (int k = Math.max(0, random.nextInt(4) - 1) * rows.length / 4; k > 0; k--) {
                rows[random.nextInt(rows.length)] = rows[random.nextInt(rows.length)].clone();
            }
            return new Grid(sizes, rows);
        }

        /** With rows, columns and levels mixed, and sometimes two cells swapped. */
        Grid disguised(Random random) {
            int[] columns = anyOrder(random, sizes.length);
            Grid other = new Grid(new int[sizes.length], new int[rows.length][sizes.length]);
            for (int c = 0; c < sizes.length; c++) {
                int[] order = anyOrder(random, sizes[c]);
                other.sizes[columns[c]] = sizes[c];
                for (int r = 0; r < rows.length; r++) {
                    other.rows[r][columns[c]] = order[rows[r][c]];
                }
            }
            for (int r = rows.length - 1; r > 0; r--) {
                int q = random.nextInt(r + 1);
                int[] row = other.rows[r];
                other.rows[r] = other.rows[q];
                other.rows[q] = row;
            }
            if (rows.length > 0 && random.nextInt(4) == 0) {
                int c = random.nextInt(sizes.length);
                int[] row = other.rows[random.nextInt(rows.length)];
                int level = row[c];
                row[c] = other.rows[0][c];
                other.rows[0][c] = level;
            }
            return other;
        }

        String text() {
            StringBuilder text = new StringBuilder();
            for (int size : sizes) {
                text.append(size);
            }
            for (int[] row : rows) {
                text.append('/');
                for (int level : row) {
                    text.append(level);
                }
            }
            return text.toString();
        }

        boolean isSmall() {
            return rows.length > 0 && rows.length <= MOST_ROWS_SPARED;
        }

        int allRows() {
            return (1 << rows.length) - 1;
        }

        /** Tries all lists in order; the other array's rows are compared when the list is whole. */
        boolean findsList(Grid other, List<Integer> list, Grid mapped, int used) {
            int c = Integer.bitCount(used);
            if (c == sizes.length) {
                return mapped.sortedRows().equals(other.sortedRows());
            }
            for (int d = 0; d < sizes.length; d++) {
                if ((used >> d & 1) == 0 && sizes[c] == other.sizes[d]) {
                    for (int[] order : ORDERS.get(sizes[c])) {
                        int before = list.size();
                        list.add(d);
                        Arrays.stream(order).forEach(list::add);
                        mapped.setColumn(this, c, d, order);
                        if (findsList(other, list, mapped, used | 1 << d)) {
                            return true;
                        }
                        list.subList(before, list.size()).clear();
                    }
                }
            }
            return false;
        }

        private void setColumn(Grid source, int c, int d, int[] order) {
            for (int r = 0; r < rows.length; r++) {
                if (rows[r] == null) {
                    rows[r] = new int[sizes.length];
                }
                rows[r][d] = order[source.rows[r][c]];
            }
        }

        private List<Integer> sortedRows() {
            List<Integer> numbers = new ArrayList<>();
            for (int[] row : rows) {
                int number = 0;
                for (int level : row) {
                    number = number * 6 + level;
                }
                numbers.add(number);
            }
            numbers.sort(null);
            return numbers;
        }

        boolean accepts(int[] column, int levels) {
            int[] alone = new int[levels];
            for (int level : column) {
                alone[level]++;
            }
            boolean even = areEqual(alone);
            for (int c = 0; c < sizes.length && even; c++) {
                int[] found = new int[sizes[c] * levels];
                for (int r = 0; r < rows.length; r++) {
                    found[rows[r][c] * levels + column[r]]++;
                }
                even = areEqual(found);
            }
            return even;
        }

        int strength(int left) {
            int best = 0;
            for (int t = 0; t <= sizes.length; t++) {
                boolean all = true;
                for (int set = 0; set < 1 << sizes.length; set++) {
                    all &= Integer.bitCount(set) != t || areEqual(counts(set, left));
                }
                best = all ? t : best;
            }
            return best;
        }

        private int[] counts(int set, int left) {
            int tuples = 1;
            int[] numbers = new int[rows.length];
            for (int c = 0; c < sizes.length; c++) {
                if ((set >> c & 1) == 1) {
                    tuples *= sizes[c];
                    for (int r = 0; r < rows.length; r++) {
                        numbers[r] = numbers[r] * sizes[c] + rows[r][c];
                    }
                }
            }
            int[] counts = new int[tuples];
            for (int r = 0; r < rows.length; r++) {
                counts[numbers[r]] += left >> r & 1;
            }
            return counts;
        }

        private static boolean areEqual(int[] counts) {
            return Arrays.stream(counts).distinct().count() <= 1;
        }

        int spared(int t) {
            if (strength(allRows()) < t) {
                return NONE;
            }
            for (int many = rows.length - 1; many > 0; many--) {
                for (int set = 1; set < allRows(); set++) {
                    if (Integer.bitCount(set) == many && strength(allRows() & ~set) >= t) {
                        return set;
                    }
                }
            }
            return 0;
        }
    }
}
