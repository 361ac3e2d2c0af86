import java.util.ArrayDeque;
import java.util.ArrayList;
import java.util.Arrays;
import java.util.Collections;
import java.util.Deque;
import java.util.HashMap;
import java.util.List;
import java.util.Map;

/** Long runs of calls, each compared with a plain model that follows the document word by word. */
public final class ModelTest {
    private static final int BAD = -1, STATE = -2, FULL = -3, NONE = -9;
    private static long calls = 0;
    private static long wrong = 0;

    public static void main(String[] args) {
        int runs = args.length > 0 ? Integer.parseInt(args[0]) : 1500;
        for (int run = 0; run < runs; run++) {
            new Run(run).go();
        }
        System.out.println(calls + " calls compared with the model, " + wrong + " wrong");
        if (wrong != 0) {
            System.exit(1);
        }
    }

    /** Fixed pseudo-random numbers: the same runs every time. */
    private static final class Numbers {
        private long state;

        Numbers(long seed) {
            state = seed * 0x5DEECE66DL + 12345;
        }

        int below(int bound) {
            state = state * 6364136223846793005L + 1442695040888963407L;
            return (int) ((state >>> 33) % bound);
        }

        boolean chance(int percent) {
            return below(100) < percent;
        }
    }

    private static final class Run {
        private final int number;
        private final Numbers numbers;
        private final ArrayBench bench = new ArrayBench();
        private final Model model = new Model();
        private final List<String> told = new ArrayList<>();
        private int used = 0;

        Run(int number) {
            this.number = number;
            this.numbers = new Numbers(number);
        }

        /** The dearest step takes some 200 calls, and an object is good for 512. */
        void go() {
            while (used < 300) {
                step();
            }
        }

        private void due(String call, int got, int want) {
            calls++;
            used++;
            told.add(call + " = " + got);
            if (got != want) {
                wrong++;
                if (wrong <= 5) {
                    System.out.println("run " + number + ", call " + told.size() + ": " + call + " answered " + got
                            + ", due is " + want);
                    System.out.println("  " + told.subList(Math.max(0, told.size() - 40), told.size()));
                }
            }
        }

        private void step() {
            switch (numbers.below(42)) {
                case 0 -> begin();
                case 1, 2 -> addColumn();
                case 3 -> {
                    int c = column();
                    due("dropColumn(" + c + ")", bench.dropColumn(c), model.dropColumn(c));
                }
                case 4, 5, 6 -> put();
                case 7 -> {
                    int r = row();
                    due("dropRow(" + r + ")", bench.dropRow(r), model.dropRow(r));
                }
                case 8 -> due("dropCopies()", bench.dropCopies(), model.dropCopies());
                case 9 -> due("sort()", bench.sort(), model.sort());
                case 10, 11 -> factorial();
                case 12, 13 -> addSum();
                case 14 -> {
                    int c = column();
                    int i = image();
                    due("replace(" + c + "," + i + ")", bench.replace(c, i), model.replace(c, i));
                }
                case 15 -> due("develop()", bench.develop(), model.develop());
                case 16 -> due("undo()", bench.undo(), model.undo());
                case 17 -> typeText();
                case 18 -> loadScheme();
                case 19, 20 -> tellAll();
                case 21 -> count();
                case 22, 23 -> audit();
                case 24 -> comparePairs();
                case 25, 26 -> extension();
                case 27 -> {
                    int levels = numbers.below(7) + 1;
                    due("extend(" + levels + ")", bench.extend(levels), model.extend(levels));
                }
                case 28, 29 -> {
                    int t = numbers.below(5);
                    due("spare(" + t + ")", bench.spare(t), model.spare(t));
                }
                case 30 -> keep();
                case 31 -> {
                    int i = image();
                    due("back(" + i + ")", bench.back(i), model.back(i));
                }
                case 32 -> isomorphism(image());
                case 33, 34 -> disguise();
                case 35 -> undoAll();
                case 36 -> replaceByKept();
                case 37 -> spareOfStack();
                case 38, 39 -> extendBalanced();
                case 40 -> compareRegular();
                default -> loadRandom();
            }
        }

        private int column() {
            return numbers.below(model.sizes.size() + (numbers.chance(20) ? 2 : 1)) - (numbers.chance(10) ? 1 : 0);
        }

        private int row() {
            return numbers.below(model.rows.size() + (numbers.chance(20) ? 2 : 1)) - (numbers.chance(10) ? 1 : 0);
        }

        private int image() {
            return numbers.chance(90) ? numbers.below(2) : numbers.below(4) - 1;
        }

        private void begin() {
            int[] usual = {0, 1, 2, 3, 4, 6, 8, 9, 12, 16, 18, 36, 37, -1};
            int rows = numbers.chance(80) ? usual[numbers.below(usual.length)] : numbers.below(40) - 1;
            due("begin(" + rows + ")", bench.begin(rows), model.begin(rows));
        }

        private void addColumn() {
            int levels = numbers.chance(60) ? 2 + numbers.below(2) : numbers.below(8);
            due("addColumn(" + levels + ")", bench.addColumn(levels), model.addColumn(levels));
        }

        private void put() {
            int r = row();
            int c = column();
            int level = numbers.below(7) - (numbers.chance(5) ? 1 : 0);
            if (model.hasColumn(c) && numbers.chance(85)) {
                level = numbers.below(model.sizes.get(c));
            }
            due("put(" + r + "," + c + "," + level + ")", bench.put(r, c, level), model.put(r, c, level));
        }

        private void factorial() {
            int[] usual = {2, 3, 4, 5, 6, 22, 23, 32, 33, 24, 222, 223, 332, 2222, 2223, 44, 43, 66, 34, 2233, 22222,
                26, 62, 666, 1, 0, -5, 72, 27, 2222222, 22222222, 2022, 201, 33333};
            int levels = usual[numbers.below(usual.length)];
            due("factorial(" + levels + ")", bench.factorial(levels), model.factorial(levels));
        }

        private void addSum() {
            int c = column();
            int d = column();
            int a = numbers.below(6) + (numbers.chance(3) ? 1 : 0) - (numbers.chance(3) ? 1 : 0);
            int b = numbers.below(6) + (numbers.chance(3) ? 1 : 0) - (numbers.chance(3) ? 1 : 0);
            due("addSum(" + c + "," + a + "," + d + "," + b + ")", bench.addSum(c, a, d, b), model.addSum(c, a, d, b));
        }

        private void typeText() {
            if (numbers.chance(50)) {
                due("wipe()", bench.wipe(), model.wipe());
            }
            String usual = "2345601/";
            int many = numbers.below(12);
            for (int i = 0; i < many; i++) {
                int code = numbers.chance(95) ? usual.charAt(numbers.below(usual.length())) : 30 + numbers.below(99);
                due("write(" + code + ")", bench.write(code), model.write(code));
            }
            due("fault()", bench.fault(), model.fault());
            if (numbers.chance(30)) {
                due("load()", bench.load(), model.load());
            }
        }

        private void loadRandom() {
            int columns = 1 + numbers.below(5);
            List<Integer> sizes = new ArrayList<>();
            for (int c = 0; c < columns; c++) {
                sizes.add(numbers.chance(70) ? 2 + numbers.below(2) : 2 + numbers.below(5));
            }
            List<int[]> rows = new ArrayList<>();
            int many = numbers.below(13);
            for (int r = 0; r < many; r++) {
                int[] cells = new int[columns];
                for (int c = 0; c < columns; c++) {
                    cells[c] = numbers.below(sizes.get(c));
                }
                rows.add(cells);
            }
            loadText(sizes, rows);
        }

        private void loadScheme() {
            String[] schemes = {"333/000/012/021", "22/00/01", "4444/0000/0123/0231/0312", "2/0/1/1", "5555/0000/0123",
                "3", "555/000/012/024/031/043", "66/00/01/02/03/04/05", "22/00/01/11/10", "33/00/01/02/11/12/10",
                "2222222/0000000/0101010", "222/000/011/010/001", "6/3/3/3/3/3/3", "6/5", "333333/000000"};
            loadBytes(schemes[numbers.below(schemes.length)]);
            tellAll();
            due("develop()", bench.develop(), model.develop());
        }

        private void undoAll() {
            int many = numbers.below(11);
            for (int i = 0; i < many; i++) {
                due("undo()", bench.undo(), model.undo());
            }
            tellAll();
        }

        private void replaceByKept() {
            int s = 2 + numbers.below(3);
            List<Integer> sizes = new ArrayList<>();
            List<int[]> rows = new ArrayList<>();
            for (int r = 0; r < s; r++) {
                rows.add(new int[1 + s % 3]);
            }
            for (int c = 0; c < 1 + s % 3; c++) {
                sizes.add(2 + numbers.below(5));
                for (int[] cells : rows) {
                    cells[c] = numbers.below(sizes.get(c));
                }
            }
            loadText(sizes, rows);
            int i = numbers.below(2);
            due("keep(" + i + ")", bench.keep(i), model.keep(i));
            int[] factorials = {222, 234, 3, 33, 343, 44, 432, 2222};
            int levels = factorials[numbers.below(factorials.length)];
            due("factorial(" + levels + ")", bench.factorial(levels), model.factorial(levels));
            for (int turn = 0; turn < 4; turn++) {
                int c = numbers.below(model.sizes.size());
                due("replace(" + c + "," + i + ")", bench.replace(c, i), model.replace(c, i));
            }
            tellAll();
        }

        /** Some small arrays on each other, of which often a whole one can be spared. */
        private void spareOfStack() {
            String[] parts = {"22/00/01/10/11", "222/000/011/101/110", "222/001/010/100/111", "23/00/01/02/10/11/12",
                "2/0/1", "3/0/1/2", "22/00/11", "222/000/001/010/011/100/101/110/111", "33/00/11/22", "222/000/111"};
            String[] part = parts[numbers.below(parts.length)].split("/");
            List<Integer> sizes = part[0].chars().mapToObj(code -> code - '0').toList();
            List<int[]> rows = new ArrayList<>();
            int copies = 1 + numbers.below(5);
            for (int copy = 0; copy < copies && rows.size() + part.length <= 14; copy++) {
                int shifted = numbers.below(sizes.size());
                for (int r = 1; r < part.length; r++) {
                    int[] cells = part[r].chars().map(code -> code - '0').toArray();
                    cells[shifted] = (cells[shifted] + copy) % sizes.get(shifted);
                    rows.add(numbers.below(rows.size() + 1), cells);
                }
            }
            loadText(sizes, rows);
            for (int t = 0; t <= sizes.size() + 1; t++) {
                due("spare(" + t + ")", bench.spare(t), model.spare(t));
            }
        }

        /** Columns in which each level stands equally often, in a mixed order; up to three of them are alike. */
        private void extendBalanced() {
            int[] many = {4, 6, 8, 8, 9, 12, 12, 16};
            int rows = many[numbers.below(many.length)];
            List<Integer> sizes = new ArrayList<>();
            List<int[]> table = new ArrayList<>();
            for (int r = 0; r < rows; r++) {
                table.add(new int[5]);
            }
            for (int c = 0; c < 5; c++) {
                int size = 2 + numbers.below(3);
                size = rows % size == 0 ? size : rows % 2 == 0 ? 2 : 3;
                sizes.add(size);
                List<Integer> order = numbers.chance(60) ? mixed(rows) : null;
                for (int r = 0; r < rows; r++) {
                    int block = (int) Math.pow(size, c % 3);
                    table.get(r)[c] = order == null ? r / block % size : order.get(r) % size;
                }
            }
            int columns = 1 + numbers.below(rows > 12 ? 3 : 5);
            table.replaceAll(cells -> Arrays.copyOf(cells, columns));
            loadText(sizes.subList(0, columns), table);
            for (int levels = 2; levels <= 6; levels++) {
                int r = numbers.below(rows);
                due("extension(" + levels + "," + r + ")", bench.extension(levels, r), model.extension(levels, r));
            }
            int levels = 2 + numbers.below(3);
            for (int turn = 0; turn < 3; turn++) {
                due("extend(" + levels + ")", bench.extend(levels), model.extend(levels));
            }
            for (int r = 0; r < rows && model.sizes.size() > columns; r++) {
                due("cell(" + r + "," + columns + ")", bench.cell(r, columns), model.cell(r, columns));
            }
        }

        private void loadText(List<Integer> sizes, List<int[]> rows) {
            StringBuilder text = new StringBuilder();
            sizes.forEach(text::append);
            for (int[] cells : rows) {
                text.append('/');
                for (int level : cells) {
                    text.append(level);
                }
            }
            loadBytes(text.toString());
        }

        /** Writing byte by byte would use up the calls of a run, so only the last bytes are compared. */
        private void loadBytes(String text) {
            due("wipe()", bench.wipe(), model.wipe());
            for (int i = 0; i < text.length(); i++) {
                int got = bench.write(text.charAt(i));
                int want = model.write(text.charAt(i));
                used++;
                if (i == text.length() - 1 || got != want) {
                    due("write.." + text, got, want);
                }
            }
            due("fault()", bench.fault(), model.fault());
            due("load()", bench.load(), model.load());
        }

        private void tellAll() {
            for (int what = -1; what <= 9; what++) {
                due("told(" + what + ")", bench.told(what), model.told(what));
            }
            int c = column();
            due("levels(" + c + ")", bench.levels(c), model.levels(c));
            for (int i = 0; i < 6; i++) {
                int r = row();
                int d = column();
                due("cell(" + r + "," + d + ")", bench.cell(r, d), model.cell(r, d));
            }
        }

        private void count() {
            for (int i = 0; i < 4; i++) {
                int set = numbers.below((1 << model.sizes.size()) + 2) - (numbers.chance(5) ? 1 : 0);
                int tuple = numbers.below(numbers.chance(50) ? 5 : 40) - (numbers.chance(5) ? 1 : 0);
                due("count(" + set + "," + tuple + ")", bench.count(set, tuple), model.count(set, tuple));
            }
        }

        private void audit() {
            int t = numbers.below(model.sizes.size() + 1) + (numbers.chance(8) ? 1 : 0) - (numbers.chance(8) ? 1 : 0);
            for (int what = 0; what < 4; what++) {
                due("audit(" + t + "," + what + ")", bench.audit(t, what), model.audit(t, what));
            }
            int what = numbers.below(8) - 2;
            due("audit(" + t + "," + what + ")", bench.audit(t, what), model.audit(t, what));
        }

        private void comparePairs() {
            int r = row();
            int q = row();
            due("agreement(" + r + "," + q + ")", bench.agreement(r, q), model.agreement(r, q));
            int many = numbers.below(10) - 1;
            due("pairs(" + many + ")", bench.pairs(many), model.pairs(many));
        }

        private void extension() {
            int levels = numbers.chance(80) ? 2 + numbers.below(3) : numbers.below(9);
            for (int i = 0; i < 5; i++) {
                int r = numbers.chance(10) ? -1 - numbers.below(2) : row();
                due("extension(" + levels + "," + r + ")", bench.extension(levels, r), model.extension(levels, r));
            }
        }

        private void keep() {
            int i = image();
            due("keep(" + i + ")", bench.keep(i), model.keep(i));
        }

        private void isomorphism(int i) {
            due("isIsomorphic(" + i + ")", bench.isIsomorphic(i), model.isIsomorphic(i));
            for (int c = 0; c <= model.sizes.size(); c++) {
                for (int v = -2; v < (model.hasColumn(c) ? model.sizes.get(c) + 1 : 2); v++) {
                    if (numbers.chance(70)) {
                        due("mapped(" + i + "," + c + "," + v + ")", bench.mapped(i, c, v), model.mapped(i, c, v));
                    }
                }
            }
        }

        /** Sums of the columns of a factorial, some of them several times: counts alone tell little of these. */
        private void compareRegular() {
            int size = 2 + numbers.below(2);
            int factors = size == 2 ? 2 + numbers.below(3) : 2;
            List<int[]> sums = new ArrayList<>();
            List<Integer> sizes = new ArrayList<>();
            for (int c = 2 + numbers.below(5); c > 0; c--) {
                int[] sum = new int[factors];
                for (int k = 0; k < factors; k++) {
                    sum[k] = numbers.below(size);
                }
                sums.add(sums.isEmpty() || numbers.chance(80) ? sum : sums.get(0));
                sizes.add(size);
            }
            List<int[]> rows = new ArrayList<>();
            for (int r = 0; r < Math.pow(size, factors); r++) {
                int[] cells = new int[sums.size()];
                for (int c = 0; c < cells.length; c++) {
                    for (int rest = r, k = 0; k < factors; k++) {
                        cells[c] = (cells[c] + rest % size * sums.get(c)[k]) % size;
                        rest /= size;
                    }
                }
                rows.add(cells);
            }
            loadText(sizes, rows);
            disguise();
        }

        /** Keeps the array, then loads it with its rows, columns and levels mixed, and sometimes a cell changed. */
        private void disguise() {
            if (model.sizes.isEmpty() || model.rows.size() > 18) {
                return;
            }
            int i = numbers.below(2);
            due("keep(" + i + ")", bench.keep(i), model.keep(i));
            List<Integer> order = mixed(model.sizes.size());
            List<Integer> sizes = new ArrayList<>();
            List<int[]> rows = new ArrayList<>();
            for (int r : mixed(model.rows.size())) {
                rows.add(new int[order.size()]);
                for (int c = 0; c < order.size(); c++) {
                    rows.get(rows.size() - 1)[c] = model.rows.get(r)[order.get(c)];
                }
            }
            for (int c = 0; c < order.size(); c++) {
                sizes.add(model.sizes.get(order.get(c)));
                List<Integer> levels = mixed(sizes.get(c));
                for (int[] cells : rows) {
                    cells[c] = levels.get(cells[c]);
                }
            }
            if (!rows.isEmpty() && numbers.chance(30)) {
                int c = numbers.below(order.size());
                rows.get(numbers.below(rows.size()))[c] = numbers.below(sizes.get(c));
            }
            loadText(sizes, rows);
            isomorphism(i);
        }

        private List<Integer> mixed(int many) {
            List<Integer> order = new ArrayList<>();
            for (int k = 0; k < many; k++) {
                order.add(numbers.below(order.size() + 1), k);
            }
            return order;
        }
    }

    /** The document, as plainly as it can be written. */
    private static final class Model {
        List<Integer> sizes = new ArrayList<>();
        List<int[]> rows = new ArrayList<>();
        private final Deque<Model> states = new ArrayDeque<>();
        private final Model[] images = new Model[2];
        private String text = "";
        private Map<String, Object> memory = new HashMap<>();

        private Model copy() {
            Model copy = new Model();
            copy.sizes = new ArrayList<>(sizes);
            for (int[] cells : rows) {
                copy.rows.add(cells.clone());
            }
            return copy;
        }

        private void change() {
            memory.clear();
            states.addLast(copy());
            if (states.size() > 8) {
                states.removeFirst();
            }
        }

        boolean hasColumn(int c) {
            return c >= 0 && c < sizes.size();
        }

        private boolean hasRow(int r) {
            return r >= 0 && r < rows.size();
        }

        int begin(int many) {
            if (many < 0 || many > 36) {
                return BAD;
            }
            change();
            int before = rows.size();
            sizes.clear();
            rows.clear();
            for (int r = 0; r < many; r++) {
                rows.add(new int[0]);
            }
            return before;
        }

        private void appendColumn(int levels, int[] cells) {
            sizes.add(levels);
            for (int r = 0; r < rows.size(); r++) {
                int[] longer = Arrays.copyOf(rows.get(r), sizes.size());
                longer[sizes.size() - 1] = cells[r];
                rows.set(r, longer);
            }
        }

        int addColumn(int levels) {
            if (levels < 2 || levels > 6) {
                return BAD;
            }
            if (sizes.size() == 7) {
                return FULL;
            }
            change();
            appendColumn(levels, new int[rows.size()]);
            return sizes.size() - 1;
        }

        int dropColumn(int c) {
            if (!hasColumn(c)) {
                return BAD;
            }
            change();
            sizes.remove(c);
            for (int r = 0; r < rows.size(); r++) {
                List<Integer> cells = new ArrayList<>();
                for (int level : rows.get(r)) {
                    cells.add(level);
                }
                cells.remove(c);
                rows.set(r, cells.stream().mapToInt(Integer::intValue).toArray());
            }
            return sizes.size();
        }

        int put(int r, int c, int level) {
            if (!hasRow(r) || !hasColumn(c) || level < 0 || level >= sizes.get(c)) {
                return BAD;
            }
            change();
            int before = rows.get(r)[c];
            rows.get(r)[c] = level;
            return before;
        }

        int dropRow(int r) {
            if (!hasRow(r)) {
                return BAD;
            }
            change();
            rows.remove(r);
            return rows.size();
        }

        private int copies() {
            List<String> seen = new ArrayList<>();
            rows.forEach(cells -> seen.add(Arrays.toString(cells)));
            return (int) (seen.size() - seen.stream().distinct().count());
        }

        int dropCopies() {
            change();
            int many = copies();
            List<String> seen = new ArrayList<>();
            List<int[]> left = new ArrayList<>();
            for (int[] cells : rows) {
                if (!seen.contains(Arrays.toString(cells))) {
                    seen.add(Arrays.toString(cells));
                    left.add(cells);
                }
            }
            rows = left;
            return many;
        }

        int sort() {
            change();
            int pairs = 0;
            for (int r = 0; r < rows.size(); r++) {
                for (int q = r + 1; q < rows.size(); q++) {
                    pairs += Arrays.compare(rows.get(r), rows.get(q)) > 0 ? 1 : 0;
                }
            }
            rows.sort(Arrays::compare);
            return pairs;
        }

        int factorial(int levels) {
            String digits = Integer.toString(levels);
            if (!digits.matches("[2-6]{1,7}")) {
                return BAD;
            }
            int product = 1;
            for (char digit : digits.toCharArray()) {
                product *= digit - '0';
            }
            if (product > 36) {
                return FULL;
            }
            change();
            sizes.clear();
            rows = new ArrayList<>(List.of(new int[0]));
            for (char digit : digits.toCharArray()) {
                sizes.add(digit - '0');
                List<int[]> longer = new ArrayList<>();
                for (int[] cells : rows) {
                    for (int v = 0; v < digit - '0'; v++) {
                        int[] more = Arrays.copyOf(cells, cells.length + 1);
                        more[cells.length] = v;
                        longer.add(more);
                    }
                }
                rows = longer;
            }
            return product;
        }

        int addSum(int c, int a, int d, int b) {
            if (!hasColumn(c) || !hasColumn(d) || !sizes.get(c).equals(sizes.get(d)) || a < 0 || a > 5 || b < 0
                    || b > 5) {
                return BAD;
            }
            if (sizes.size() == 7) {
                return FULL;
            }
            change();
            int levels = sizes.get(c);
            appendColumn(levels, rows.stream().mapToInt(cells -> (a * cells[c] + b * cells[d]) % levels).toArray());
            return sizes.size() - 1;
        }

        int replace(int c, int i) {
            if (!hasColumn(c) || i < 0 || i > 1) {
                return BAD;
            }
            if (images[i] == null || images[i].rows.size() != sizes.get(c)) {
                return STATE;
            }
            if (sizes.size() - 1 + images[i].sizes.size() > 7) {
                return FULL;
            }
            change();
            sizes.remove(c);
            sizes.addAll(c, images[i].sizes);
            for (int r = 0; r < rows.size(); r++) {
                List<Integer> cells = new ArrayList<>();
                for (int d = 0; d < rows.get(r).length; d++) {
                    if (d != c) {
                        cells.add(rows.get(r)[d]);
                    } else {
                        for (int level : images[i].rows.get(rows.get(r)[c])) {
                            cells.add(level);
                        }
                    }
                }
                rows.set(r, cells.stream().mapToInt(Integer::intValue).toArray());
            }
            return sizes.size();
        }

        private boolean isScheme() {
            if (sizes.isEmpty() || sizes.stream().distinct().count() != 1) {
                return false;
            }
            int s = sizes.get(0);
            for (int c = 0; c < sizes.size(); c++) {
                for (int d = c + 1; d < sizes.size(); d++) {
                    int[] found = new int[s];
                    for (int[] cells : rows) {
                        found[Math.floorMod(cells[d] - cells[c], s)]++;
                    }
                    if (Arrays.stream(found).distinct().count() != 1) {
                        return false;
                    }
                }
            }
            return true;
        }

        int develop() {
            if (rows.isEmpty() || !isScheme()) {
                return STATE;
            }
            int s = sizes.get(0);
            int many = rows.size();
            boolean more = many >= 2 && many <= 6;
            if (many * s > 36 || sizes.size() + (more ? 1 : 0) > 7) {
                return FULL;
            }
            change();
            List<int[]> developed = new ArrayList<>();
            List<Integer> origins = new ArrayList<>();
            for (int x = 0; x < many; x++) {
                for (int g = 0; g < s; g++) {
                    int shift = g;
                    developed.add(Arrays.stream(rows.get(x)).map(level -> (level + shift) % s).toArray());
                    origins.add(x);
                }
            }
            rows = developed;
            if (more) {
                appendColumn(many, origins.stream().mapToInt(Integer::intValue).toArray());
            }
            return rows.size();
        }

        int undo() {
            if (states.isEmpty()) {
                return STATE;
            }
            memory.clear();
            Model state = states.removeLast();
            sizes = state.sizes;
            rows = state.rows;
            return states.size();
        }

        int write(int code) {
            if (code < 32 || code > 126) {
                return BAD;
            }
            if (text.length() == 300) {
                return FULL;
            }
            text += (char) code;
            return text.length();
        }

        int wipe() {
            int before = text.length();
            text = "";
            return before;
        }

        /** The first byte after which no array's text can follow; the length where only an end is missing. */
        int fault() {
            for (int i = 0; i < text.length(); i++) {
                if (!isPrefix(text.substring(0, i + 1))) {
                    return i;
                }
            }
            return isWhole(text) ? NONE : text.length();
        }

        private static boolean isWhole(String part) {
            String[] pieces = part.split("/", -1);
            for (int r = 1; r < pieces.length; r++) {
                if (pieces[r].length() != pieces[0].length()) {
                    return false;
                }
            }
            return !pieces[0].isEmpty() && isPrefix(part);
        }

        private static boolean isPrefix(String part) {
            String[] pieces = part.split("/", -1);
            if (!pieces[0].matches("[2-6]{0,7}") || pieces.length > 37 || pieces.length > 1 && pieces[0].isEmpty()) {
                return false;
            }
            for (int r = 1; r < pieces.length; r++) {
                boolean last = r == pieces.length - 1;
                if (pieces[r].length() > pieces[0].length() || !last && pieces[r].length() < pieces[0].length()) {
                    return false;
                }
                for (int c = 0; c < pieces[r].length(); c++) {
                    if (pieces[r].charAt(c) < '0' || pieces[r].charAt(c) >= pieces[0].charAt(c)) {
                        return false;
                    }
                }
            }
            return true;
        }

        int load() {
            if (fault() != NONE) {
                return STATE;
            }
            change();
            String[] pieces = text.split("/");
            sizes.clear();
            rows.clear();
            for (char digit : pieces[0].toCharArray()) {
                sizes.add(digit - '0');
            }
            for (int r = 1; r < pieces.length; r++) {
                rows.add(pieces[r].chars().map(code -> code - '0').toArray());
            }
            return rows.size();
        }

        private int strength() {
            int best = 0;
            for (int t = 0; t <= sizes.size(); t++) {
                if (audit(t, 0) == 0) {
                    best = t;
                }
            }
            return best;
        }

        private int leastMultiple() {
            for (int multiple = 1;; multiple++) {
                boolean all = true;
                for (int c = 0; c < sizes.size(); c++) {
                    for (int d = c + 1; d < sizes.size(); d++) {
                        all &= multiple % (sizes.get(c) * sizes.get(d)) == 0;
                    }
                }
                if (all) {
                    return multiple;
                }
            }
        }

        int told(int what) {
            return switch (what) {
                case 0 -> rows.size();
                case 1 -> sizes.size();
                case 2 -> strength();
                case 3 -> copies();
                case 4 -> isScheme() ? 1 : 0;
                case 5 -> 1 + sizes.stream().mapToInt(s -> s - 1).sum();
                case 6 -> leastMultiple();
                case 7 -> states.size();
                case 8 -> text.length();
                default -> BAD;
            };
        }

        int levels(int c) {
            return hasColumn(c) ? sizes.get(c) : BAD;
        }

        int cell(int r, int c) {
            return hasRow(r) && hasColumn(c) ? rows.get(r)[c] : BAD;
        }

        /** The tuples of a set of columns, in lexicographical order, each with the number of its rows. */
        private List<Integer> counts(int set) {
            List<List<Integer>> tuples = new ArrayList<>();
            tuples.add(List.of());
            List<Integer> members = new ArrayList<>();
            for (int c = 0; c < sizes.size(); c++) {
                if ((set & 1 << c) != 0) {
                    members.add(c);
                    List<List<Integer>> longer = new ArrayList<>();
                    for (List<Integer> tuple : tuples) {
                        for (int v = 0; v < sizes.get(c); v++) {
                            List<Integer> more = new ArrayList<>(tuple);
                            more.add(v);
                            longer.add(more);
                        }
                    }
                    tuples = longer;
                }
            }
            Map<List<Integer>, Integer> found = new HashMap<>();
            for (int[] cells : rows) {
                List<Integer> tuple = new ArrayList<>();
                members.forEach(c -> tuple.add(cells[c]));
                found.merge(tuple, 1, Integer::sum);
            }
            List<Integer> counts = new ArrayList<>();
            tuples.forEach(tuple -> counts.add(found.getOrDefault(tuple, 0)));
            return counts;
        }

        private List<Integer> rememberedCounts(int set) {
            @SuppressWarnings("unchecked")
            List<Integer> counts = (List<Integer>) memory.computeIfAbsent("counts" + set, key -> counts(set));
            return counts;
        }

        int count(int set, int tuple) {
            if (set < 0 || set >= 1 << sizes.size() || tuple < 0 || tuple >= rememberedCounts(set).size()) {
                return BAD;
            }
            return rememberedCounts(set).get(tuple);
        }

        int audit(int t, int what) {
            if (t < 0 || t > sizes.size() || what < 0 || what > 3) {
                return BAD;
            }
            List<Integer> unbalanced = new ArrayList<>();
            int most = Integer.MIN_VALUE;
            int least = Integer.MAX_VALUE;
            for (int set = 0; set < 1 << sizes.size(); set++) {
                if (Integer.bitCount(set) == t) {
                    int high = Collections.max(rememberedCounts(set));
                    int low = Collections.min(rememberedCounts(set));
                    most = Math.max(most, high);
                    least = Math.min(least, low);
                    if (high != low) {
                        unbalanced.add(set);
                    }
                }
            }
            return switch (what) {
                case 0 -> unbalanced.size();
                case 1 -> unbalanced.isEmpty() ? NONE : unbalanced.get(0);
                case 2 -> most;
                default -> least;
            };
        }

        int agreement(int r, int q) {
            if (!hasRow(r) || !hasRow(q)) {
                return BAD;
            }
            int same = 0;
            for (int c = 0; c < sizes.size(); c++) {
                same += rows.get(r)[c] == rows.get(q)[c] ? 1 : 0;
            }
            return same;
        }

        int pairs(int many) {
            if (many < 0 || many > 7) {
                return BAD;
            }
            int found = 0;
            for (int r = 0; r < rows.size(); r++) {
                for (int q = r + 1; q < rows.size(); q++) {
                    found += agreement(r, q) == many ? 1 : 0;
                }
            }
            return found;
        }

        private int[] smallestColumn(int levels) {
            return (int[]) memory.computeIfAbsent("column" + levels, key -> {
                int[] column = new int[rows.size()];
                return fill(column, 0, levels) ? column : new int[0];
            });
        }

        private boolean fill(int[] column, int row, int levels) {
            if (row == rows.size()) {
                return true;
            }
            for (int g = 0; g < levels; g++) {
                column[row] = g;
                if (mayStay(column, row, levels) && fill(column, row + 1, levels)) {
                    return true;
                }
            }
            return false;
        }

        /** Whether no tuple with the new column occurs more often than its share in the rows up to this one. */
        private boolean mayStay(int[] column, int row, int levels) {
            int alone = 0;
            for (int r = 0; r <= row; r++) {
                alone += column[r] == column[row] ? 1 : 0;
            }
            if (alone * levels > rows.size()) {
                return false;
            }
            for (int c = 0; c < sizes.size(); c++) {
                int found = 0;
                int whole = 0;
                for (int r = 0; r < rows.size(); r++) {
                    boolean same = rows.get(r)[c] == rows.get(row)[c];
                    whole += same ? 1 : 0;
                    found += same && r <= row && column[r] == column[row] ? 1 : 0;
                }
                if (found * levels * sizes.get(c) > rows.size() || whole * sizes.get(c) != rows.size()) {
                    return false;
                }
            }
            return rows.size() % levels == 0;
        }

        int extension(int levels, int r) {
            if (levels < 2 || levels > 6 || r < -1 || r >= rows.size()) {
                return BAD;
            }
            if (rows.isEmpty() || rows.size() > 16) {
                return STATE;
            }
            int[] column = smallestColumn(levels);
            if (column.length == 0) {
                return NONE;
            }
            return r == -1 ? rows.size() : column[r];
        }

        int extend(int levels) {
            if (levels < 2 || levels > 6) {
                return BAD;
            }
            if (rows.isEmpty() || rows.size() > 16) {
                return STATE;
            }
            if (sizes.size() == 7) {
                return FULL;
            }
            int[] column = smallestColumn(levels);
            if (column.length == 0) {
                return NONE;
            }
            change();
            appendColumn(levels, column);
            return sizes.size() - 1;
        }

        int spare(int t) {
            if (t < 1 || t > sizes.size()) {
                return BAD;
            }
            if (rows.isEmpty() || rows.size() > 12) {
                return STATE;
            }
            if (strength() < t) {
                return NONE;
            }
            int best = 0;
            for (int set = 1; set < (1 << rows.size()) - 1; set++) {
                if (Integer.bitCount(set) > Integer.bitCount(best)) {
                    Model rest = new Model();
                    rest.sizes = sizes;
                    for (int r = 0; r < rows.size(); r++) {
                        if ((set & 1 << r) == 0) {
                            rest.rows.add(rows.get(r));
                        }
                    }
                    if (rest.audit(t, 0) == 0) {
                        best = set;
                    }
                }
            }
            return best;
        }

        int keep(int i) {
            if (i < 0 || i > 1) {
                return BAD;
            }
            memory.clear();
            images[i] = copy();
            return rows.size();
        }

        int back(int i) {
            if (i < 0 || i > 1) {
                return BAD;
            }
            if (images[i] == null) {
                return STATE;
            }
            change();
            Model image = images[i].copy();
            sizes = image.sizes;
            rows = image.rows;
            return rows.size();
        }

        private boolean isMatchable(int i) {
            return images[i] != null && rows.size() <= 18 && sizes.stream().allMatch(s -> s <= 4);
        }

        int isIsomorphic(int i) {
            if (i < 0 || i > 1) {
                return BAD;
            }
            if (!isMatchable(i)) {
                return STATE;
            }
            return isomorphism(i).isEmpty() && !isEmptyMatch(i) ? 0 : 1;
        }

        private boolean isEmptyMatch(int i) {
            return sizes.isEmpty() && images[i].sizes.isEmpty() && rows.size() == images[i].rows.size();
        }

        int mapped(int i, int c, int v) {
            if (i < 0 || i > 1 || !hasColumn(c) || v < -1 || v >= sizes.get(c)) {
                return BAD;
            }
            if (!isMatchable(i)) {
                return STATE;
            }
            List<Integer> list = isomorphism(i);
            if (list.isEmpty()) {
                return NONE;
            }
            int place = c;
            for (int d = 0; d < c; d++) {
                place += sizes.get(d);
            }
            return list.get(place + v + 1);
        }

        @SuppressWarnings("unchecked")
        private List<Integer> isomorphism(int i) {
            return (List<Integer>) memory.computeIfAbsent("isomorphism" + i, key -> {
                List<Integer> list = new ArrayList<>();
                List<Integer> columns = new ArrayList<>();
                boolean possible = rows.size() == images[i].rows.size() && sizes.size() == images[i].sizes.size();
                possible = possible && columnKinds().equals(images[i].columnKinds());
                String[] mappedRows = new String[rows.size()];
                Arrays.fill(mappedRows, "");
                return possible && extendList(list, columns, mappedRows, images[i]) ? list : new ArrayList<Integer>();
            });
        }

        /** For each column its levels and how often each occurs, all sorted: what every isomorphism keeps. */
        private List<String> columnKinds() {
            List<String> kinds = new ArrayList<>();
            for (int c = 0; c < sizes.size(); c++) {
                int[] found = new int[sizes.get(c)];
                for (int[] cells : rows) {
                    found[cells[c]]++;
                }
                Arrays.sort(found);
                kinds.add(Arrays.toString(found));
            }
            Collections.sort(kinds);
            return kinds;
        }

        private boolean extendList(List<Integer> list, List<Integer> columns, String[] mappedRows, Model other) {
            int c = columns.size();
            if (c == sizes.size()) {
                return true;
            }
            for (int d = 0; d < sizes.size(); d++) {
                if (!columns.contains(d) && sizes.get(c).equals(other.sizes.get(d))) {
                    columns.add(d);
                    for (List<Integer> order : orders(sizes.get(c))) {
                        String[] longer = mappedRows.clone();
                        for (int r = 0; r < longer.length; r++) {
                            longer[r] += order.get(rows.get(r)[c]);
                        }
                        int before = list.size();
                        list.add(d);
                        list.addAll(order);
                        if (agrees(longer, columns, other) && extendList(list, columns, longer, other)) {
                            return true;
                        }
                        list.subList(before, list.size()).clear();
                    }
                    columns.remove(c);
                }
            }
            return false;
        }

        private static boolean agrees(String[] mappedRows, List<Integer> columns, Model other) {
            List<String> theirs = new ArrayList<>();
            for (int[] cells : other.rows) {
                StringBuilder part = new StringBuilder();
                columns.forEach(d -> part.append(cells[d]));
                theirs.add(part.toString());
            }
            List<String> ours = new ArrayList<>(Arrays.asList(mappedRows));
            Collections.sort(ours);
            Collections.sort(theirs);
            return ours.equals(theirs);
        }

        private static List<List<Integer>> orders(int many) {
            List<List<Integer>> all = new ArrayList<>();
            for (int number = 0; number < Math.pow(many, many); number++) {
                List<Integer> order = new ArrayList<>();
                for (int rest = number, k = 0; k < many; k++) {
                    order.add(0, rest % many);
                    rest /= many;
                }
                if (order.stream().distinct().count() == many) {
                    all.add(order);
                }
            }
            return all;
        }
    }
}
