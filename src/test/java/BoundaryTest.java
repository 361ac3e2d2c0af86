import java.lang.reflect.InvocationTargetException;
import java.lang.reflect.Method;
import java.util.ArrayList;
import java.util.Arrays;
import java.util.HashMap;
import java.util.List;
import java.util.Map;
import java.util.Set;
import java.util.TreeSet;
import java.util.regex.Matcher;
import java.util.regex.Pattern;

/**
 * A test of its own for each sentence of the document that names a boundary case, under the promise's number.
 *
 * Calls are written as texts, so that a run can be made again on a new object: that is how a refused call is shown to
 * change nothing. Two names are short for many calls: type(..) writes a text, array(..) wipes, types and loads it.
 */
public final class BoundaryTest {
    private static final int BAD = -1, STATE = -2, FULL = -3, NONE = -9;
    private static final int PROMISES = 31;
    private static final int MOST_CALLS = 512;
    private static final int MOST_STATES = 8;
    private static final int LEAST = Integer.MIN_VALUE, MOST = Integer.MAX_VALUE;
    private static final Pattern ITEM = Pattern.compile("(?:(\\d+) x )?(\\w+)\\((.*)\\)");
    private static final Set<String> QUESTIONS = Set.of("fault", "told", "levels", "cell", "count", "audit",
            "agreement", "pairs", "extension", "spare", "isIsomorphic", "mapped");
    private static final Map<String, Method> METHODS = new HashMap<>();

    private static final String FULL_HISTORY = "9 x begin(5); begin(0)";
    private static final String FULL_ARRAY = "begin(36); 7 x addColumn(6)";
    private static final String SEVEN_COLUMNS = "array(2222223/0000000/1111112)";
    private static final String FULL_TEXT = "300 x write(50)";
    private static final String SQUARE = "array(22/00/01/10/11)";

    private static int promise = 0;
    private static String sentence = "";
    private static int sentences = 0;
    private static int checks = 0;
    private static int wrong = 0;
    private static final Set<Integer> tested = new TreeSet<>();

    public static void main(String[] args) {
        for (Method method : ArrayBench.class.getMethods()) {
            METHODS.put(method.getName(), method);
        }
        newObject();
        begin();
        addColumn();
        dropColumn();
        put();
        dropRow();
        dropCopies();
        sort();
        factorial();
        addSum();
        replace();
        develop();
        undo();
        write();
        wipe();
        fault();
        load();
        told();
        toldOfArrays();
        levels();
        cell();
        count();
        audit();
        agreement();
        pairs();
        extension();
        extend();
        spare();
        keep();
        back();
        isIsomorphic();
        mapped();
        refusals();
        refusalsOfFullArrays();
        for (int number = 1; number <= PROMISES; number++) {
            if (!tested.contains(number)) {
                complain("promise " + number + " has no test");
            }
        }
        System.out.println(sentences + " sentences with " + checks + " answers tested, " + wrong + " wrong");
        if (wrong != 0) {
            System.exit(1);
        }
    }

    // ---- how it is tested

    /** Begins a test: what follows must hold because of this sentence. */
    private static void sentence(int number, String words) {
        promise = number;
        sentence = words;
        sentences++;
        tested.add(number);
    }

    private static void complain(String what) {
        wrong++;
        if (wrong <= 50) {
            System.out.println("promise " + promise + " (" + sentence + "): " + what);
        }
    }

    /** The answer of a call after others; where the call must not change anything, that too. */
    private static void due(String before, String call, int want) {
        checks++;
        int got = new Bench(before).answer(call);
        if (got != want) {
            complain("[" + before + "] " + call + " answered " + got + ", due is " + want);
        }
        boolean isError = want == BAD || want == STATE || want == FULL;
        if (isError || want == NONE || QUESTIONS.contains(call.substring(0, call.indexOf('(')))) {
            changesNothing(before, call);
            changesNothing(joined(FULL_HISTORY, before), call);
        }
    }

    private static void changesNothing(String before, String call) {
        if (call.equals("undo()") && before.startsWith(FULL_HISTORY)) {
            return;
        }
        List<String> without = view(before);
        List<String> with = view(joined(before, call));
        for (int part = 0; part < without.size(); part++) {
            if (!with.get(part).equals(without.get(part))) {
                complain("[" + before + "] " + call + " changes " + without.get(part) + " to " + with.get(part));
            }
        }
    }

    /** All that can be seen after a run: the array, the states, the images and the text. */
    private static List<String> view(String run) {
        List<String> view = new ArrayList<>();
        Bench bench = new Bench(run);
        StringBuilder told = new StringBuilder("told");
        for (int what = 0; what <= 8; what++) {
            told.append(' ').append(bench.answer("told(" + what + ")"));
        }
        view.add(told.append(", fault ").append(bench.answer("fault()")).toString());
        view.add("array " + text(run));
        view.add("found " + found(run));
        view.add("states " + history(run));
        for (String restore : new String[] {"back(0)", "back(1)", "load()"}) {
            view.add(restore + " " + new Bench(run).answer(restore) + " " + text(joined(run, restore)));
        }
        return view;
    }

    /** What is searched for, and might be kept from a search before. */
    private static String found(String run) {
        Bench bench = new Bench(run);
        StringBuilder found = new StringBuilder();
        for (int levels = 2; levels <= 3; levels++) {
            for (int r = -1; r < 4; r++) {
                found.append(' ').append(bench.answer("extension(" + levels + ", " + r + ")"));
            }
        }
        for (int i = 0; i <= 1; i++) {
            found.append(' ').append(bench.answer("isIsomorphic(" + i + ")"));
            for (int v = -1; v < 2; v++) {
                found.append(' ').append(bench.answer("mapped(" + i + ", 0, " + v + ")"));
            }
        }
        return found.toString();
    }

    /** The arrays that undo() brings back, the latest first. */
    private static List<String> history(String run) {
        List<String> states = new ArrayList<>();
        int many = new Bench(run).answer("told(7)");
        for (int undone = 1; undone <= many; undone++) {
            states.add(text(joined(run, undone + " x undo()")));
        }
        return states;
    }

    /** The call records the array before it, and of more than 8 states the oldest is dropped. */
    private static void isChange(String before, String call) {
        for (String run : new String[] {before, joined(FULL_HISTORY, before)}) {
            checks++;
            List<String> want = new ArrayList<>(history(run));
            want.add(0, text(run));
            List<String> got = history(joined(run, call));
            want = want.subList(0, Math.min(MOST_STATES, want.size()));
            if (!got.equals(want)) {
                complain("[" + run + "] " + call + " leaves the states " + got + ", due are " + want);
            }
        }
    }

    private static void isNoChange(String before, String call) {
        for (String run : new String[] {before, joined(FULL_HISTORY, before)}) {
            checks++;
            if (!history(joined(run, call)).equals(history(run))) {
                complain("[" + run + "] " + call + " records a state");
            }
        }
    }

    private static void dueArray(String run, String want) {
        checks++;
        String got = text(run);
        if (!got.equals(want)) {
            complain("[" + run + "] makes the array " + got + ", due is " + want);
        }
    }

    /** The whole list of the isomorphism to an image. */
    private static void dueList(String run, int image, String want) {
        checks++;
        Bench bench = new Bench(run);
        StringBuilder list = new StringBuilder();
        for (int c = 0; c < bench.answer("told(1)"); c++) {
            for (int v = -1; v < bench.answer("levels(" + c + ")"); v++) {
                list.append(bench.answer("mapped(" + image + ", " + c + ", " + v + ")"));
            }
        }
        if (!list.toString().equals(want)) {
            complain("[" + run + "] has the list " + list + ", due is " + want);
        }
    }

    /** The array after a run. A row takes a new object where the calls of the last one would not suffice. */
    private static String text(String run) {
        Bench bench = new Bench(run);
        StringBuilder text = new StringBuilder();
        int rows = bench.answer("told(0)");
        int columns = bench.answer("told(1)");
        for (int c = 0; c < columns; c++) {
            text.append(bench.answer("levels(" + c + ")"));
        }
        for (int r = 0; r < rows; r++) {
            bench = bench.calls + columns > MOST_CALLS ? new Bench(run) : bench;
            text.append('/');
            for (int c = 0; c < columns; c++) {
                text.append(bench.answer("cell(" + r + ", " + c + ")"));
            }
        }
        return text.toString();
    }

    private static String joined(String before, String after) {
        return before.isEmpty() || after.isEmpty() ? before + after : before + "; " + after;
    }

    /** An object with the calls that it has had. */
    private static final class Bench {
        private final ArrayBench bench = new ArrayBench();
        private int calls = 0;

        Bench(String run) {
            for (String item : run.split("; ")) {
                Matcher parts = ITEM.matcher(item);
                if (parts.matches()) {
                    int times = parts.group(1) == null ? 1 : Integer.parseInt(parts.group(1));
                    for (int i = 0; i < times; i++) {
                        perform(parts.group(2), parts.group(3));
                    }
                } else if (!item.isEmpty()) {
                    complain("cannot read " + item);
                }
            }
        }

        private void perform(String name, String arguments) {
            if (name.equals("type")) {
                type(arguments);
            } else if (name.equals("array")) {
                perform("wipe", "");
                type(arguments);
                perform("load", "");
            } else {
                answer(name + "(" + arguments + ")");
            }
        }

        private void type(String text) {
            for (char code : text.toCharArray()) {
                answer("write(" + (int) code + ")");
            }
        }

        int answer(String call) {
            calls++;
            if (calls > MOST_CALLS) {
                complain("more calls than an object is used for");
            }
            int open = call.indexOf('(');
            String inside = call.substring(open + 1, call.length() - 1);
            Object[] numbers = inside.isEmpty() ? new Object[0]
                    : Arrays.stream(inside.split(", ?")).map(Integer::valueOf).toArray();
            try {
                return (int) METHODS.get(call.substring(0, open)).invoke(bench, numbers);
            } catch (InvocationTargetException thrown) {
                complain(call + " threw " + thrown.getCause());
            } catch (IllegalAccessException | RuntimeException unusable) {
                complain(call + " cannot be called: " + unusable);
            }
            return MOST;
        }
    }

    // ---- the array

    private static void newObject() {
        sentence(1, "an array without rows and columns");
        due("", "told(0)", 0);
        due("", "told(1)", 0);
        due("", "levels(0)", BAD);
        due("", "cell(0, 0)", BAD);
        sentence(1, "the text is empty");
        due("", "told(8)", 0);
        due("", "wipe()", 0);
        due("", "write(50)", 1);
        sentence(1, "the images keep nothing");
        due("", "back(0)", STATE);
        due("", "back(1)", STATE);
        sentence(1, "nothing can be undone");
        due("", "told(7)", 0);
        due("", "undo()", STATE);
    }

    private static void begin() {
        sentence(2, "rows: the number of rows, 0 to 36; BAD if rows is out of range");
        due("", "begin(-1)", BAD);
        due("", "begin(0)", 0);
        due("begin(0)", "told(0)", 0);
        due("", "begin(36)", 0);
        due("begin(36)", "told(0)", 36);
        due("", "begin(37)", BAD);
        due(SQUARE, "begin(-1)", BAD);
        due(SQUARE, "begin(37)", BAD);
        due(SQUARE, "begin(" + LEAST + ")", BAD);
        due(SQUARE, "begin(" + MOST + ")", BAD);
        sentence(2, "Returns the previous number of rows");
        due("begin(36)", "begin(0)", 36);
        due("begin(1)", "begin(36)", 1);
        due(FULL_ARRAY, "begin(1)", 36);
        sentence(2, "Begins a new array without columns");
        dueArray(FULL_ARRAY + "; begin(2)", "//");
        dueArray(FULL_ARRAY + "; begin(0)", "");
        sentence(2, "This is a change");
        isChange("", "begin(0)");
        isChange("begin(36)", "begin(36)");
        isChange(SQUARE, "begin(3)");
    }

    private static void addColumn() {
        sentence(3, "levels: its number of levels, 2 to 6; BAD if levels is out of range");
        due("begin(1)", "addColumn(1)", BAD);
        due("begin(1)", "addColumn(2)", 0);
        due("begin(1)", "addColumn(6)", 0);
        due("begin(1)", "addColumn(7)", BAD);
        due("begin(1)", "addColumn(0)", BAD);
        due("begin(1)", "addColumn(-1)", BAD);
        due("begin(1)", "addColumn(" + LEAST + ")", BAD);
        due("begin(1)", "addColumn(" + MOST + ")", BAD);
        sentence(3, "FULL if there are 7 columns");
        due("begin(2); 6 x addColumn(6)", "addColumn(6)", 6);
        due("begin(2); 7 x addColumn(6)", "addColumn(6)", FULL);
        due("7 x addColumn(2)", "addColumn(2)", FULL);
        due(FULL_ARRAY, "addColumn(2)", FULL);
        due(FULL_ARRAY + "; dropColumn(0)", "addColumn(2)", 6);
        sentence(3, "BAD comes before FULL");
        due(FULL_ARRAY, "addColumn(1)", BAD);
        due(FULL_ARRAY, "addColumn(7)", BAD);
        sentence(3, "a column in which all cells contain 0");
        dueArray("addColumn(3)", "3");
        dueArray("array(22/11/11); dropColumn(1); addColumn(3)", "23/10/10");
        dueArray("array(2/1/1); begin(2); addColumn(2)", "2/0/0");
        dueArray("array(2/1/1); dropRow(1); begin(2); addColumn(2)", "2/0/0");
        sentence(3, "This is a change");
        isChange("", "addColumn(2)");
        isChange("begin(36); 6 x addColumn(2)", "addColumn(6)");
    }

    private static void dropColumn() {
        sentence(4, "BAD if there is no such column");
        due(SQUARE, "dropColumn(-1)", BAD);
        due(SQUARE, "dropColumn(0)", 1);
        due(SQUARE, "dropColumn(1)", 1);
        due(SQUARE, "dropColumn(2)", BAD);
        due(SQUARE, "dropColumn(" + LEAST + ")", BAD);
        due(SQUARE, "dropColumn(" + MOST + ")", BAD);
        due("", "dropColumn(0)", BAD);
        due("begin(36)", "dropColumn(0)", BAD);
        due(FULL_ARRAY, "dropColumn(7)", BAD);
        sentence(4, "Returns how many columns are left");
        due(FULL_ARRAY, "dropColumn(6)", 6);
        due("addColumn(2)", "dropColumn(0)", 0);
        sentence(4, "Removes a column");
        dueArray("array(2345/0123/1234); dropColumn(0)", "345/123/234");
        dueArray("array(2345/0123/1234); dropColumn(3)", "234/012/123");
        dueArray("array(2/0/1/0); dropColumn(0)", "///");
        dueArray("array(2); dropColumn(0)", "");
        sentence(4, "This is a change");
        isChange("addColumn(2)", "dropColumn(0)");
        isChange(SQUARE, "dropColumn(1)");
    }

    private static void put() {
        sentence(5, "BAD if there is no such row");
        due(SQUARE, "put(-1, 0, 0)", BAD);
        due(SQUARE, "put(0, 0, 0)", 0);
        due(SQUARE, "put(3, 0, 0)", 1);
        due(SQUARE, "put(4, 0, 0)", BAD);
        due(SQUARE, "put(" + LEAST + ", 0, 0)", BAD);
        due(SQUARE, "put(" + MOST + ", 0, 0)", BAD);
        due("addColumn(2)", "put(0, 0, 0)", BAD);
        due(FULL_ARRAY, "put(36, 6, 5)", BAD);
        sentence(5, "BAD if there is no such column");
        due(SQUARE, "put(0, -1, 0)", BAD);
        due(SQUARE, "put(0, 2, 0)", BAD);
        due(SQUARE, "put(0, " + LEAST + ", 0)", BAD);
        due(SQUARE, "put(0, " + MOST + ", 0)", BAD);
        due("begin(1)", "put(0, 0, 0)", BAD);
        due(FULL_ARRAY, "put(35, 7, 0)", BAD);
        due("", "put(0, 0, 0)", BAD);
        sentence(5, "BAD if there is no such level");
        due("array(26/00/15)", "put(0, 0, -1)", BAD);
        due("array(26/00/15)", "put(0, 0, 1)", 0);
        due("array(26/00/15)", "put(0, 0, 2)", BAD);
        due("array(26/00/15)", "put(1, 1, 5)", 5);
        due("array(26/00/15)", "put(1, 1, 6)", BAD);
        due("array(26/00/15)", "put(0, 0, " + LEAST + ")", BAD);
        due("array(26/00/15)", "put(0, 0, " + MOST + ")", BAD);
        sentence(5, "Sets a cell and returns the previous level");
        due(FULL_ARRAY + "; put(35, 6, 5)", "put(35, 6, 0)", 5);
        dueArray("begin(2); addColumn(2); addColumn(6); put(1, 1, 5)", "26/00/05");
        sentence(5, "This is a change");
        isChange(SQUARE, "put(3, 1, 1)");
        isChange(SQUARE, "put(3, 1, 0)");
    }

    private static void dropRow() {
        sentence(6, "BAD if there is no such row");
        due(SQUARE, "dropRow(-1)", BAD);
        due(SQUARE, "dropRow(0)", 3);
        due(SQUARE, "dropRow(3)", 3);
        due(SQUARE, "dropRow(4)", BAD);
        due(SQUARE, "dropRow(" + LEAST + ")", BAD);
        due(SQUARE, "dropRow(" + MOST + ")", BAD);
        due("", "dropRow(0)", BAD);
        due("7 x addColumn(2)", "dropRow(0)", BAD);
        due(FULL_ARRAY, "dropRow(36)", BAD);
        sentence(6, "Returns how many rows are left");
        due(FULL_ARRAY, "dropRow(35)", 35);
        due("begin(1)", "dropRow(0)", 0);
        sentence(6, "Removes a row");
        dueArray("array(3/0/1/2); dropRow(0)", "3/1/2");
        dueArray("array(3/0/1/2); dropRow(2)", "3/0/1");
        dueArray("array(3/2); dropRow(0)", "3");
        dueArray("begin(3); dropRow(1)", "//");
        sentence(6, "This is a change");
        isChange("begin(1)", "dropRow(0)");
        isChange(SQUARE, "dropRow(3)");
    }

    private static void dropCopies() {
        sentence(7, "Removes each row that is equal to an earlier one");
        due("", "dropCopies()", 0);
        due("7 x addColumn(2)", "dropCopies()", 0);
        due("begin(1)", "dropCopies()", 0);
        due("begin(36)", "dropCopies()", 35);
        due(FULL_ARRAY, "dropCopies()", 35);
        dueArray(FULL_ARRAY + "; dropCopies()", "6666666/0000000");
        due(FULL_ARRAY + "; put(35, 6, 1)", "dropCopies()", 34);
        due("array(2222222/0000000/0000001)", "dropCopies()", 0);
        due("array(22/00/01); dropColumn(1)", "dropCopies()", 1);
        due("array(2222222/0000000/1000000)", "dropCopies()", 0);
        dueArray("array(23/12/00/12/01/00/12); dropCopies()", "23/12/00/01");
        sentence(7, "This is a change");
        isChange("", "dropCopies()");
        isChange(SQUARE, "dropCopies()");
        isChange("begin(36)", "dropCopies()");
    }

    private static void sort() {
        sentence(8, "Returns how many pairs of rows were in the wrong order");
        due("", "sort()", 0);
        due("7 x addColumn(2)", "sort()", 0);
        due("begin(36)", "sort()", 0);
        due("array(2/1)", "sort()", 0);
        due("array(2/1/0)", "sort()", 1);
        due("array(2/1/1)", "sort()", 0);
        due("array(2/0/1)", "sort()", 0);
        due("array(2222222/0000001/0000000)", "sort()", 1);
        due("array(66" + descendingPairs() + ")", "sort()", 630);
        due("array(22/01/00); dropColumn(1)", "sort()", 0);
        sentence(8, "Sorts the rows in ascending order");
        dueArray("array(66" + descendingPairs() + "); sort()", text("factorial(66)"));
        dueArray("array(26/05/10/04/15); sort()", "26/04/05/10/15");
        dueArray("array(2222223/1000002/0111110); sort()", "2222223/0111110/1000002");
        sentence(8, "a full array");
        due(FULL_ARRAY + "; put(0, 0, 5)", "sort()", 35);
        due(FULL_ARRAY + "; put(0, 0, 5); sort()", "cell(35, 0)", 5);
        due(FULL_ARRAY + "; put(0, 0, 5); sort()", "count(127, 0)", 35);
        due(FULL_ARRAY + "; put(35, 6, 5)", "sort()", 0);
        due(FULL_ARRAY + "; put(34, 6, 5); sort()", "cell(35, 6)", 5);
        due(FULL_ARRAY + "; put(34, 6, 5); sort()", "count(127, 0)", 35);
        sentence(8, "This is a change");
        isChange("", "sort()");
        isChange(SQUARE, "sort()");
        isChange("array(2/1/0)", "sort()");
    }

    private static String descendingPairs() {
        StringBuilder rows = new StringBuilder();
        for (int number = 35; number >= 0; number--) {
            rows.append('/').append(number / 6).append(number % 6);
        }
        return rows.toString();
    }

    private static void factorial() {
        sentence(9, "BAD if levels is less than 2");
        due(SQUARE, "factorial(1)", BAD);
        due(SQUARE, "factorial(2)", 2);
        due(SQUARE, "factorial(0)", BAD);
        due(SQUARE, "factorial(-1)", BAD);
        due(SQUARE, "factorial(-2)", BAD);
        due(SQUARE, "factorial(-23)", BAD);
        due(SQUARE, "factorial(" + LEAST + ")", BAD);
        sentence(9, "BAD if levels has more than 7 digits");
        due(SQUARE, "factorial(2222222)", FULL);
        due(SQUARE, "factorial(6666666)", FULL);
        due(SQUARE, "factorial(22222222)", BAD);
        due(SQUARE, "factorial(66666666)", BAD);
        due(SQUARE, "factorial(222222222)", BAD);
        due(SQUARE, "factorial(10000000)", BAD);
        due(SQUARE, "factorial(" + MOST + ")", BAD);
        sentence(9, "BAD if a digit is not from 2 to 6");
        due("", "factorial(6)", 6);
        int[] wrongDigits = {7, 9, 10, 12, 17, 20, 21, 260, 27, 61, 67, 72, 202, 212, 272, 1222222, 7222222, 2222221,
            2222227, 2220222, 2000000, 9999999};
        for (int levels : wrongDigits) {
            due(SQUARE, "factorial(" + levels + ")", BAD);
        }
        sentence(9, "FULL if there would be more than 36 rows");
        int[] greatest = {66, 2233, 3322, 362};
        for (int levels : greatest) {
            due(SQUARE, "factorial(" + levels + ")", 36);
        }
        due("", "factorial(22222)", 32);
        int[] more = {245, 542, 222222, 22225, 662, 266, 444, 3333};
        for (int levels : more) {
            due(SQUARE, "factorial(" + levels + ")", FULL);
        }
        sentence(9, "BAD comes before FULL");
        due(SQUARE, "factorial(6661)", BAD);
        due(SQUARE, "factorial(1666)", BAD);
        due(SQUARE, "factorial(7666666)", BAD);
        due(SQUARE, "factorial(6666660)", BAD);
        sentence(9, "each combination of levels once, in ascending order, the first column as the highest digit");
        dueArray(FULL_ARRAY + "; factorial(2)", "2/0/1");
        dueArray("factorial(23)", "23/00/01/02/10/11/12");
        due("factorial(22222)", "told(1)", 5);
        due("factorial(22222)", "told(2)", 5);
        due("factorial(66)", "cell(35, 1)", 5);
        sentence(9, "This is a change");
        isChange("", "factorial(2)");
        isChange(FULL_ARRAY, "factorial(66)");
    }

    private static void addSum() {
        String three = "array(332/001/120)";
        sentence(10, "BAD if there is no such column");
        due(three, "addSum(-1, 1, 0, 1)", BAD);
        due(three, "addSum(3, 1, 0, 1)", BAD);
        due(three, "addSum(0, 1, -1, 1)", BAD);
        due(three, "addSum(0, 1, 3, 1)", BAD);
        due(three, "addSum(" + LEAST + ", 1, 0, 1)", BAD);
        due(three, "addSum(0, 1, " + MOST + ", 1)", BAD);
        due("", "addSum(0, 1, 0, 1)", BAD);
        due("begin(36)", "addSum(0, 1, 0, 1)", BAD);
        sentence(10, "BAD if the numbers of levels are different");
        due(three, "addSum(1, 1, 2, 1)", BAD);
        due(three, "addSum(2, 1, 0, 1)", BAD);
        due(three, "addSum(1, 0, 2, 0)", BAD);
        sentence(10, "a: the factor for it, 0 to 5; BAD if a factor is out of range");
        due(three, "addSum(0, -1, 1, 1)", BAD);
        due(three, "addSum(0, 0, 1, 1)", 3);
        due(three, "addSum(0, 5, 1, 1)", 3);
        due(three, "addSum(0, 6, 1, 1)", BAD);
        due(three, "addSum(0, " + LEAST + ", 1, 1)", BAD);
        due(three, "addSum(0, " + MOST + ", 1, 1)", BAD);
        sentence(10, "b: the factor for it, 0 to 5; BAD if a factor is out of range");
        due(three, "addSum(0, 1, 1, -1)", BAD);
        due(three, "addSum(0, 1, 1, 0)", 3);
        due(three, "addSum(0, 1, 1, 5)", 3);
        due(three, "addSum(0, 1, 1, 6)", BAD);
        due(three, "addSum(0, 1, 1, " + LEAST + ")", BAD);
        due(three, "addSum(0, 1, 1, " + MOST + ")", BAD);
        sentence(10, "FULL if there are 7 columns");
        due("begin(2); 6 x addColumn(2)", "addSum(0, 1, 5, 1)", 6);
        due(SEVEN_COLUMNS, "addSum(0, 1, 5, 1)", FULL);
        due(SEVEN_COLUMNS, "addSum(6, 0, 6, 0)", FULL);
        due(FULL_ARRAY, "addSum(0, 5, 6, 5)", FULL);
        sentence(10, "BAD comes before FULL");
        due(SEVEN_COLUMNS, "addSum(-1, 1, 0, 1)", BAD);
        due(SEVEN_COLUMNS, "addSum(0, 1, 7, 1)", BAD);
        due(SEVEN_COLUMNS, "addSum(5, 1, 6, 1)", BAD);
        due(SEVEN_COLUMNS, "addSum(0, 6, 1, 1)", BAD);
        due(SEVEN_COLUMNS, "addSum(0, 1, 1, -1)", BAD);
        sentence(10, "(a * level in c + b * level in d) modulo their number of levels");
        dueArray("array(66/55/45/10/00); addSum(0, 5, 1, 5)", "666/552/453/105/000");
        dueArray("array(66/55/45/10/00); addSum(0, 0, 1, 0)", "666/550/450/100/000");
        dueArray("array(33/01/12); addSum(1, 0, 0, 1)", "333/010/121");
        dueArray("array(33); addSum(1, 1, 0, 1)", "333");
        sentence(10, "possibly the same column");
        dueArray("array(3/0/1/2); addSum(0, 1, 0, 1)", "33/00/12/21");
        sentence(10, "This is a change");
        isChange("addColumn(2)", "addSum(0, 0, 0, 0)");
        isChange("begin(36); 6 x addColumn(2)", "addSum(0, 1, 1, 1)");
    }

    private static void replace() {
        String kept = "array(34/02/13/20); keep(0)";
        sentence(11, "BAD if there is no such column");
        due(kept + "; array(343/132/000/221)", "replace(-1, 0)", BAD);
        due(kept + "; array(343/132/000/221)", "replace(0, 0)", 4);
        due(kept + "; array(343/132/000/221)", "replace(2, 0)", 4);
        due(kept + "; array(343/132/000/221)", "replace(3, 0)", BAD);
        due(kept + "; array(343/132/000/221)", "replace(" + LEAST + ", 0)", BAD);
        due(kept + "; array(343/132/000/221)", "replace(" + MOST + ", 0)", BAD);
        due(kept + "; begin(3)", "replace(0, 0)", BAD);
        sentence(11, "BAD if there is no such image");
        due(kept + "; array(3/0/1)", "replace(0, -1)", BAD);
        due(kept + "; array(3/0/1)", "replace(0, 2)", BAD);
        due(kept + "; array(3/0/1)", "replace(0, " + LEAST + ")", BAD);
        due(kept + "; array(3/0/1)", "replace(0, " + MOST + ")", BAD);
        sentence(11, "STATE if the image keeps nothing");
        due("array(3/0/1)", "replace(0, 0)", STATE);
        due(kept + "; array(3/0/1)", "replace(0, 1)", STATE);
        due("array(34/02/13/20); keep(1); array(3/0/1)", "replace(0, 0)", STATE);
        due("array(34/02/13/20); keep(1); array(3/0/1)", "replace(0, 1)", 2);
        sentence(11, "STATE if the image keeps an array that does not have s rows");
        due(kept + "; array(234/000/112)", "replace(0, 0)", STATE);
        due(kept + "; array(234/000/112)", "replace(1, 0)", 4);
        due(kept + "; array(234/000/112)", "replace(2, 0)", STATE);
        due("keep(0); array(2/0/1)", "replace(0, 0)", STATE);
        due("addColumn(2); keep(0); array(2/0/1)", "replace(0, 0)", STATE);
        due(FULL_ARRAY + "; keep(0); begin(1); addColumn(6)", "replace(0, 0)", STATE);
        sentence(11, "FULL if there would be more than 7 columns");
        due(kept + "; array(333222/000000/111111)", "replace(0, 0)", 7);
        due(kept + "; array(3332222/0000000/1111111)", "replace(2, 0)", FULL);
        due("begin(2); 7 x addColumn(3); keep(0); array(2/0/1)", "replace(0, 0)", 7);
        due("begin(2); 7 x addColumn(3); keep(0); array(22/00/11)", "replace(1, 0)", FULL);
        due("begin(6); 7 x addColumn(6); keep(0); " + FULL_ARRAY, "replace(6, 0)", FULL);
        due("begin(6); addColumn(6); keep(0); " + FULL_ARRAY, "replace(6, 0)", 7);
        sentence(11, "BAD comes before STATE and FULL, STATE before FULL");
        due("array(3/0/1)", "replace(1, 0)", BAD);
        due("array(3/0/1)", "replace(-1, 1)", BAD);
        due(kept + "; array(2/0/1)", "replace(0, 2)", BAD);
        due(kept + "; array(3332222/0000000/1111111)", "replace(7, 0)", BAD);
        due(kept + "; array(3332222/0000000/1111111)", "replace(0, 2)", BAD);
        due(kept + "; array(3332222/0000000/1111111)", "replace(3, 0)", STATE);
        due(kept + "; array(3332224/0000000/1111111)", "replace(6, 0)", STATE);
        due("array(3332222/0000000/1111111)", "replace(0, 0)", STATE);
        sentence(11, "They stand, in their order, where the column stood");
        dueArray(kept + "; array(343/132/000/221); replace(0, 0)", "3443/1332/0200/2021");
        dueArray(kept + "; array(343/132/000/221); replace(2, 0)", "3434/1320/0002/2213");
        dueArray(kept + "; array(232/021/100); replace(1, 0)", "2342/0201/1020");
        sentence(11, "by the columns of the array that an image keeps: none are possible");
        due("begin(2); keep(0); array(2/0/1)", "replace(0, 0)", 0);
        dueArray("begin(2); keep(0); array(2/0/1); replace(0, 0)", "//");
        dueArray("begin(2); keep(0); array(323/012/201); replace(1, 0)", "33/02/21");
        sentence(11, "an array without rows");
        due(kept + "; array(232)", "replace(1, 0)", 4);
        dueArray(kept + "; array(232); replace(1, 0)", "2342");
        sentence(11, "This is a change");
        isChange(kept + "; array(232)", "replace(1, 0)");
        isChange("array(2/0/1); keep(0)", "replace(0, 0)");
        isChange("begin(6); 7 x addColumn(6); keep(0); begin(36); addColumn(6)", "replace(0, 0)");
    }

    private static void develop() {
        sentence(12, "STATE if the array has no rows");
        due("", "develop()", STATE);
        due("addColumn(3)", "develop()", STATE);
        due("array(33)", "develop()", STATE);
        due("array(3/1)", "develop()", 3);
        sentence(12, "STATE if the array is no difference scheme");
        due("begin(3)", "develop()", STATE);
        due("begin(1)", "develop()", STATE);
        due("array(23/00/01)", "develop()", STATE);
        due("array(22/00/11)", "develop()", STATE);
        due("array(22/00/01/00)", "develop()", STATE);
        due("array(222/000/010/000/010)", "develop()", STATE);
        due("array(33/00/01/01)", "develop()", STATE);
        due("array(33/00/01/02)", "develop()", 9);
        sentence(12, "if the scheme has 2 to 6 rows, one more column is appended");
        dueArray("array(3/2); develop()", "3/2/0/1");
        dueArray("array(2/1/1); develop()", "22/10/00/11/01");
        dueArray("array(2/0/1/0/1/1/0); develop()", "26/00/10/11/01/02/12/13/03/14/04/05/15");
        dueArray("array(2/0/1/0/1/1/0/1); develop()", "2/0/1/1/0/0/1/1/0/1/0/0/1/1/0");
        sentence(12, "(level in row x plus g) modulo s");
        dueArray("array(6/5); develop()", "6/5/0/1/2/3/4");
        dueArray("array(33/02/11/20); develop()", "333/020/100/210/111/221/001/202/012/122");
        sentence(12, "FULL if there would be more than 36 rows");
        due("array(6/0/1/2/3/4/5)", "develop()", 36);
        due("array(6/0/1/2/3/4/5/0)", "develop()", FULL);
        due("begin(18); addColumn(2)", "develop()", 36);
        due("begin(19); addColumn(2)", "develop()", FULL);
        due("begin(9); addColumn(4)", "develop()", 36);
        due("begin(10); addColumn(4)", "develop()", FULL);
        due("begin(7); addColumn(5)", "develop()", 35);
        due("begin(8); addColumn(5)", "develop()", FULL);
        due("begin(36); addColumn(2)", "develop()", FULL);
        due("begin(36); addColumn(6)", "develop()", FULL);
        // No scheme with 2 to 6 rows has 7 columns, so that "more than 7 columns" cannot be met, only neared.
        sentence(12, "FULL if there would be more than 7 columns");
        String six = "array(333333/000000/001122/010212/012021/021201/022110)";
        due(six, "develop()", 18);
        due(six + "; develop()", "told(1)", 7);
        due(six + "; develop()", "levels(6)", 6);
        String seven = "array(2222222/0000000/1010101/0110011/1100110/0001111/1011010/0111100/1101001)";
        due(seven, "develop()", 16);
        due(seven + "; develop()", "told(1)", 7);
        sentence(12, "STATE comes before FULL");
        due(FULL_ARRAY, "develop()", STATE);
        due("begin(19); 2 x addColumn(2)", "develop()", STATE);
        due("begin(36)", "develop()", STATE);
        due(SEVEN_COLUMNS, "develop()", STATE);
        due("array(2222222/0000000/1111111)", "develop()", STATE);
        sentence(12, "This is a change");
        isChange("array(3/2)", "develop()");
        isChange("begin(18); addColumn(2)", "develop()");
    }

    private static void undo() {
        sentence(13, "STATE if there is none");
        due("", "undo()", STATE);
        due("begin(3)", "undo()", 0);
        due("begin(3); undo()", "undo()", STATE);
        due("array(23/01/12); undo()", "undo()", STATE);
        due("9 x begin(3); 8 x undo()", "undo()", STATE);
        due("keep(0); write(50); wipe()", "undo()", STATE);
        sentence(13, "Returns how many changes can still be undone");
        due("7 x begin(3)", "undo()", 6);
        due("8 x begin(3)", "undo()", 7);
        due("9 x begin(3)", "undo()", 7);
        due("20 x begin(3); 7 x undo()", "undo()", 0);
        sentence(13, "A history of at most 8 states is kept; if there are more than 8, the oldest one is dropped");
        String nine = "begin(1); begin(2); begin(3); begin(4); begin(5); begin(6); begin(7); begin(8); begin(9)";
        due(nine, "told(7)", 8);
        due(nine + "; undo()", "told(0)", 8);
        due(nine + "; 8 x undo()", "told(0)", 1);
        due(nine + "; 9 x undo()", "told(0)", 1);
        due(nine.replace("; begin(9)", "; 8 x undo()"), "told(0)", 0);
        due(nine + "; begin(10); 8 x undo()", "told(0)", 2);
        sentence(13, "undo() removes the latest state and restores it");
        due(nine + "; 3 x undo(); begin(20)", "told(7)", 6);
        due(nine + "; 3 x undo(); begin(20)", "undo()", 5);
        due(nine + "; 3 x undo(); begin(20); undo()", "told(0)", 6);
        due(nine + "; 3 x undo(); begin(20); 6 x undo()", "told(0)", 1);
        due(nine + "; 8 x undo(); " + nine + "; 8 x undo()", "told(0)", 1);
        dueArray("array(22/01/10); begin(36); 5 x addColumn(6); 6 x undo()", "22/01/10");
        dueArray(FULL_ARRAY + "; put(35, 6, 5); begin(0); 2 x undo()", text(FULL_ARRAY));
        sentence(13, "The text does not belong to a state");
        due("array(23/01); write(47); begin(1); undo()", "told(8)", 6);
        due("type(23/01); begin(1); wipe(); undo()", "told(8)", 0);
        due("begin(1); type(23/01); undo()", "load()", 1);
        due("array(23/01); undo()", "told(8)", 5);
        sentence(13, "The images do not belong to a state");
        due("begin(1); keep(0); begin(2); undo()", "back(0)", 1);
        due("begin(1); keep(0); undo()", "back(0)", 1);
        due("begin(1); keep(0); begin(2); keep(0); undo()", "back(0)", 2);
        due("begin(1); keep(1); back(1); undo()", "back(1)", 1);
        sentence(13, "a change that returns no error code records the array: a refused one does not");
        due("begin(3); begin(37)", "undo()", 0);
        due("begin(3); addColumn(7)", "undo()", 0);
        due("begin(3); dropRow(3)", "undo()", 0);
        due("begin(3); load()", "undo()", 0);
        due("begin(3); back(0)", "undo()", 0);
        due("begin(3); extend(2)", "undo()", 0);
        due("begin(3); develop()", "undo()", 0);
    }

    // ---- the text

    private static void write() {
        sentence(14, "code: the byte, 32 to 126; BAD if code is out of range");
        due("", "write(31)", BAD);
        due("", "write(32)", 1);
        due("", "write(126)", 1);
        due("", "write(127)", BAD);
        due("type(23)", "write(31)", BAD);
        due("type(23)", "write(127)", BAD);
        due("type(23)", "write(0)", BAD);
        due("type(23)", "write(-1)", BAD);
        due("type(23)", "write(" + LEAST + ")", BAD);
        due("type(23)", "write(" + MOST + ")", BAD);
        sentence(14, "FULL if the text has 300 bytes");
        due("299 x write(50)", "write(50)", 300);
        due(FULL_TEXT, "write(50)", FULL);
        due(FULL_TEXT, "write(32)", FULL);
        due(FULL_TEXT, "write(126)", FULL);
        due(FULL_TEXT + "; write(50)", "told(8)", 300);
        due(FULL_TEXT + "; wipe()", "write(50)", 1);
        sentence(14, "BAD comes before FULL");
        due(FULL_TEXT, "write(31)", BAD);
        due(FULL_TEXT, "write(127)", BAD);
        sentence(14, "is no change");
        isNoChange(SQUARE, "write(50)");
        dueArray(SQUARE + "; write(50)", "22/00/01/10/11");
    }

    private static void wipe() {
        sentence(15, "Returns the length that it had");
        due("", "wipe()", 0);
        due("write(50)", "wipe()", 1);
        due(FULL_TEXT, "wipe()", 300);
        due(FULL_TEXT + "; wipe()", "wipe()", 0);
        sentence(15, "Empties the text");
        due(FULL_TEXT + "; wipe()", "told(8)", 0);
        due(FULL_TEXT + "; wipe()", "fault()", 0);
        due("type(33/12); wipe(); type(2/1)", "fault()", NONE);
        due("type(22/10/01); wipe(); type(22/1)", "fault()", 4);
        due("type(22/10/01); wipe(); type(22/10/)", "fault()", 6);
        dueArray("type(33/12); wipe(); type(2/1); load()", "2/1");
        sentence(15, "is no change");
        isNoChange(SQUARE, "wipe()");
        dueArray(SQUARE + "; wipe()", "22/00/01/10/11");
    }

    private static void fault() {
        sentence(16, "if the text ends too early, before the first number of levels, it is the length of the text");
        due("", "fault()", 0);
        due("type(2); wipe()", "fault()", 0);
        sentence(16, "if the text ends too early, within a row, it is the length of the text");
        dueFault("2/", 2);
        dueFault("23/", 3);
        dueFault("23/0", 4);
        dueFault("23/01/", 6);
        dueFault("23/01/1", 7);
        dueFault("6666666/000000", 14);
        sentence(16, "the numbers of levels of all columns, each a digit from 2 to 6");
        dueFault("1", 0);
        dueFault("2", NONE);
        dueFault("6", NONE);
        dueFault("7", 0);
        dueFault("0", 0);
        dueFault("21", 1);
        dueFault("26", NONE);
        dueFault("27", 1);
        dueFault("222221", 5);
        dueFault("2222227", 6);
        sentence(16, "at least one and at most 7 columns");
        dueFault("/", 0);
        dueFault("/0", 0);
        dueFault("6543222", NONE);
        dueFault("65432222", 7);
        dueFault("65432228/0000000", 7);
        dueFault("6543222/0000000", NONE);
        sentence(16, "for each row, a slash and its levels: without rows, too");
        dueFault("2345", NONE);
        dueFault("2/0/1", NONE);
        dueFault("2/01", 3);
        dueFault("2/0.", 3);
        dueFault("2//", 2);
        dueFault("23//", 3);
        dueFault("23/0/", 4);
        dueFault("23/01//", 6);
        dueFault("23/01/1/", 7);
        dueFault("23/012", 5);
        dueFault("2.", 1);
        dueFault("20", 1);
        sentence(16, "also a digit that is no level of its column");
        dueFault("2/1", NONE);
        dueFault("2/2", 2);
        dueFault("6/5", NONE);
        dueFault("6/6", 2);
        dueFault("6/9", 2);
        dueFault("26/06", 4);
        dueFault("62/51", NONE);
        dueFault("62/52", 4);
        dueFault("6222222/5111111", NONE);
        dueFault("6222222/5111112", 14);
        dueFault("3/0/1/2/3", 8);
        sentence(16, "There are no blanks: other bytes cannot stand there");
        dueFault(" ", 0);
        dueFault(" 2", 0);
        dueFault("2 ", 1);
        dueFault("2/ 0", 2);
        dueFault("2/0 ", 3);
        dueFault("2/0 /1", 3);
        dueFault("~", 0);
        dueFault("6/:", 2);
        dueFault("6//", 2);
        dueFault("a", 0);
        sentence(16, "the slash of a 37th row");
        dueFault("6" + "/5".repeat(36), NONE);
        dueFault("6" + "/5".repeat(36) + "/", 73);
        dueFault("6" + "/5".repeat(37), 73);
        dueFault("6" + "/5".repeat(36) + "5", 73);
        dueFault("6" + "/5".repeat(35) + "/", 72);
        dueFault("2222222" + "/0101010".repeat(36), NONE);
        sentence(16, "The fault is the first byte that cannot stand there");
        dueFault("2/2/", 2);
        dueFault("2/2/3", 2);
        dueFault("1/", 0);
        sentence(16, "a text of at most 300 bytes");
        due(FULL_TEXT, "fault()", 7);
        due("type(2222222" + "/0101010".repeat(36) + "); 5 x write(47)", "fault()", 295);
        due("type(6" + "/5".repeat(36) + "); 227 x write(48)", "fault()", 73);
    }

    private static void dueFault(String text, int want) {
        due("type(" + text + ")", "fault()", want);
        due("type(" + text + ")", "load()", want != NONE ? STATE : text.length() - text.replace("/", "").length());
    }

    private static void load() {
        sentence(17, "STATE if the text has a fault");
        due("", "load()", STATE);
        due(SQUARE + "; wipe()", "load()", STATE);
        due(SQUARE + "; write(47)", "load()", STATE);
        due(SQUARE + "; wipe(); type(2222222222)", "load()", STATE);
        due(SQUARE + "; wipe(); " + FULL_TEXT, "load()", STATE);
        sentence(17, "Returns the number of rows");
        due("type(2)", "load()", 0);
        due("type(2/1)", "load()", 1);
        due("type(6" + "/5".repeat(36) + ")", "load()", 36);
        due("type(2222222" + "/0101011".repeat(36) + ")", "load()", 36);
        sentence(17, "Reads the array from the text");
        dueArray(FULL_ARRAY + "; array(2)", "2");
        dueArray("array(6543222/5432111)", "6543222/5432111");
        dueArray("array(6" + "/5".repeat(36) + ")", "6" + "/5".repeat(36));
        due("array(2222222" + "/0101010".repeat(35) + "/1010101)", "cell(35, 6)", 1);
        due("array(2222222" + "/0101010".repeat(35) + "/1010101)", "cell(34, 6)", 0);
        sentence(17, "from the text, which stays");
        due("type(23/01); load()", "told(8)", 5);
        due("type(23/01); load()", "load()", 1);
        sentence(17, "This is a change");
        isChange("type(2)", "load()");
        isChange(SQUARE, "load()");
        isChange(SQUARE + "; wipe(); type(3/2)", "load()");
    }

    // ---- what is told

    private static void told() {
        sentence(18, "BAD if what is out of range");
        due(SQUARE, "told(-1)", BAD);
        due(SQUARE, "told(0)", 4);
        due(SQUARE, "told(8)", 14);
        due(SQUARE, "told(9)", BAD);
        due(SQUARE, "told(" + LEAST + ")", BAD);
        due(SQUARE, "told(" + MOST + ")", BAD);
        sentence(18, "0 rows; 1 columns: at most 36 and 7");
        due(FULL_ARRAY, "told(0)", 36);
        due(FULL_ARRAY, "told(1)", 7);
        due("begin(36)", "told(1)", 0);
        due("7 x addColumn(2)", "told(0)", 0);
        sentence(18, "5 1 plus the sum of the numbers of levels, each minus 1");
        due("", "told(5)", 1);
        due("begin(36)", "told(5)", 1);
        due("addColumn(2)", "told(5)", 2);
        due("7 x addColumn(2)", "told(5)", 8);
        due(FULL_ARRAY, "told(5)", 36);
        sentence(18, "6 the least common multiple (1 if there are less than two columns)");
        due("", "told(6)", 1);
        due("begin(36)", "told(6)", 1);
        due("addColumn(6)", "told(6)", 1);
        due("2 x addColumn(6)", "told(6)", 36);
        due("addColumn(2); addColumn(3)", "told(6)", 6);
        due("addColumn(4); addColumn(6)", "told(6)", 24);
        due("array(445566)", "told(6)", 3600);
        due("array(2345)", "told(6)", 120);
        due(FULL_ARRAY, "told(6)", 36);
        sentence(18, "7 changes that can be undone: at most 8");
        due("begin(1)", "told(7)", 1);
        due("8 x begin(1)", "told(7)", 8);
        due("9 x begin(1)", "told(7)", 8);
        due("9 x begin(1); undo()", "told(7)", 7);
        due("begin(1); undo()", "told(7)", 0);
        sentence(18, "8 bytes of the text: at most 300");
        due("write(50)", "told(8)", 1);
        due(FULL_TEXT, "told(8)", 300);
        due(FULL_TEXT + "; write(50)", "told(8)", 300);
    }

    private static void toldOfArrays() {
        sentence(18, "2 its strength: from 0 to the number of columns");
        due("", "told(2)", 0);
        due("begin(36)", "told(2)", 0);
        due(FULL_ARRAY, "told(2)", 0);
        due("array(2/0)", "told(2)", 0);
        due("array(2/0/1)", "told(2)", 1);
        due("array(22/00/11)", "told(2)", 1);
        due(SQUARE, "told(2)", 2);
        due("factorial(22222)", "told(2)", 5);
        due("factorial(66)", "told(2)", 2);
        due("factorial(66); addSum(0, 1, 1, 1)", "told(2)", 2);
        due("factorial(66); addSum(0, 1, 1, 2)", "told(2)", 1);
        due("array(222/000/011/101/110)", "told(2)", 2);
        due("array(222/000/001/110/111)", "told(2)", 1);
        due("array(222/000/010/101/111)", "told(2)", 1);
        due("array(222/000/011/100/111)", "told(2)", 1);
        sentence(18, "In an array without rows, each tuple occurs in none");
        due("addColumn(2)", "told(2)", 1);
        due("7 x addColumn(6)", "told(2)", 7);
        due("array(2/0); dropRow(0)", "told(2)", 1);
        sentence(18, "3 rows that are equal to an earlier one");
        due("", "told(3)", 0);
        due("7 x addColumn(2)", "told(3)", 0);
        due("begin(1)", "told(3)", 0);
        due("begin(36)", "told(3)", 35);
        due(FULL_ARRAY, "told(3)", 35);
        due("array(22/00/01); dropColumn(1)", "told(3)", 1);
        due(FULL_ARRAY + "; put(0, 0, 1)", "told(3)", 34);
        due(FULL_ARRAY + "; put(35, 6, 5)", "told(3)", 34);
        due("factorial(66)", "told(3)", 0);
        sentence(18, "4 a difference scheme has at least one column");
        due("", "told(4)", 0);
        due("begin(36)", "told(4)", 0);
        due("addColumn(2)", "told(4)", 1);
        due("begin(36); addColumn(6)", "told(4)", 1);
        due("begin(1); addColumn(6)", "told(4)", 1);
        sentence(18, "4 in a difference scheme all columns have s levels");
        due("array(23)", "told(4)", 0);
        due("array(32)", "told(4)", 0);
        due("array(2222223)", "told(4)", 0);
        due("7 x addColumn(2)", "told(4)", 1);
        sentence(18, "4 the differences modulo s take each value from 0 to s - 1 in the same number of rows");
        due("begin(1); 2 x addColumn(2)", "told(4)", 0);
        due(FULL_ARRAY, "told(4)", 0);
        due("array(22/00/01)", "told(4)", 1);
        due("array(22/00/10)", "told(4)", 1);
        due("array(22/00/11)", "told(4)", 0);
        due("array(33/20/10/00)", "told(4)", 1);
        due("array(33/20/10/01)", "told(4)", 0);
        due("array(66/00/01/02/03/04/05)", "told(4)", 1);
        due("array(66/00/10/20/30/40/50)", "told(4)", 1);
        due("array(66/00/01/02/03/04/04)", "told(4)", 0);
        due("array(222/000/010/001/011)", "told(4)", 1);
        due("array(222/000/010/010/000)", "told(4)", 0);
        due("array(222/000/000/011/011)", "told(4)", 0);
        due("factorial(66)", "told(4)", 1);
    }

    private static void levels() {
        sentence(19, "BAD if there is no such column");
        due("array(26)", "levels(-1)", BAD);
        due("array(26)", "levels(0)", 2);
        due("array(26)", "levels(1)", 6);
        due("array(26)", "levels(2)", BAD);
        due("array(26)", "levels(" + LEAST + ")", BAD);
        due("array(26)", "levels(" + MOST + ")", BAD);
        due("", "levels(0)", BAD);
        due("begin(36)", "levels(0)", BAD);
        due(SEVEN_COLUMNS, "levels(6)", 3);
        due(SEVEN_COLUMNS, "levels(7)", BAD);
        due(SEVEN_COLUMNS + "; dropColumn(0)", "levels(6)", BAD);
    }

    private static void cell() {
        sentence(20, "BAD if there is no such row");
        due(SQUARE, "cell(-1, 0)", BAD);
        due(SQUARE, "cell(0, 0)", 0);
        due(SQUARE, "cell(3, 0)", 1);
        due(SQUARE, "cell(4, 0)", BAD);
        due(SQUARE, "cell(" + LEAST + ", 0)", BAD);
        due(SQUARE, "cell(" + MOST + ", 0)", BAD);
        due("7 x addColumn(2)", "cell(0, 0)", BAD);
        due(FULL_ARRAY, "cell(36, 0)", BAD);
        sentence(20, "BAD if there is no such column");
        due(SQUARE, "cell(0, -1)", BAD);
        due(SQUARE, "cell(1, 1)", 1);
        due(SQUARE, "cell(0, 2)", BAD);
        due(SQUARE, "cell(0, " + LEAST + ")", BAD);
        due(SQUARE, "cell(0, " + MOST + ")", BAD);
        due("begin(36)", "cell(0, 0)", BAD);
        due(FULL_ARRAY, "cell(0, 7)", BAD);
        due("", "cell(0, 0)", BAD);
        sentence(20, "Returns its level");
        due(FULL_ARRAY + "; put(35, 6, 5)", "cell(35, 6)", 5);
        due(FULL_ARRAY + "; put(35, 6, 5)", "cell(34, 6)", 0);
        due(FULL_ARRAY + "; put(35, 6, 5)", "cell(35, 5)", 0);
    }

    private static void count() {
        sentence(21, "BAD if set is negative");
        due(SQUARE, "count(-1, 0)", BAD);
        due(SQUARE, "count(" + LEAST + ", 0)", BAD);
        due("", "count(-1, 0)", BAD);
        sentence(21, "BAD if set contains a column that does not exist");
        due(SQUARE, "count(3, 0)", 1);
        due(SQUARE, "count(4, 0)", BAD);
        due(SQUARE, "count(5, 0)", BAD);
        due(SQUARE, "count(1024, 0)", BAD);
        due(SQUARE, "count(" + (1 << 30) + ", 0)", BAD);
        due(SQUARE, "count(" + MOST + ", 0)", BAD);
        due("", "count(1, 0)", BAD);
        due("begin(36)", "count(1, 0)", BAD);
        due(FULL_ARRAY, "count(127, 0)", 36);
        due(FULL_ARRAY, "count(128, 0)", BAD);
        due(FULL_ARRAY, "count(129, 0)", BAD);
        sentence(21, "BAD if there is no such tuple");
        due("array(234/013/121)", "count(1, -1)", BAD);
        due("array(234/013/121)", "count(1, 0)", 1);
        due("array(234/013/121)", "count(1, 1)", 1);
        due("array(234/013/121)", "count(1, 2)", BAD);
        due("array(234/013/121)", "count(3, 5)", 1);
        due("array(234/013/121)", "count(3, 6)", BAD);
        due("array(234/013/121)", "count(6, 9)", 1);
        due("array(234/013/121)", "count(6, 12)", BAD);
        due("array(234/013/121)", "count(7, 23)", 0);
        due("array(234/013/121)", "count(7, 24)", BAD);
        due("array(234/013/121)", "count(7, " + LEAST + ")", BAD);
        due("array(234/013/121)", "count(7, " + MOST + ")", BAD);
        due("array(6666666/5555555/0000000)", "count(127, 279935)", 1);
        due("array(6666666/5555555/0000000)", "count(127, 279936)", BAD);
        sentence(21, "the product of their numbers of levels (1 for the empty set)");
        due("", "count(0, 0)", 0);
        due("", "count(0, 1)", BAD);
        due("begin(36)", "count(0, 0)", 36);
        due("begin(36)", "count(0, 1)", BAD);
        due("begin(36)", "count(0, -1)", BAD);
        due(FULL_ARRAY, "count(0, 0)", 36);
        due(FULL_ARRAY, "count(0, 1)", BAD);
        sentence(21, "in lexicographical order, where the column with the lowest number counts most");
        due("array(23/02)", "count(3, 2)", 1);
        due("array(23/10)", "count(3, 3)", 1);
        due("array(236/105)", "count(5, 11)", 1);
        due("array(236/105)", "count(6, 5)", 1);
        sentence(21, "In an array without rows, each tuple occurs in none");
        due("7 x addColumn(6)", "count(127, 279935)", 0);
        due("addColumn(2)", "count(1, 1)", 0);
        due("addColumn(2)", "count(1, 2)", BAD);
    }

    private static void audit() {
        sentence(22, "t: the number of columns, 0 to the number of columns of the array; BAD if t is out of range");
        due(SQUARE, "audit(-1, 0)", BAD);
        due(SQUARE, "audit(0, 0)", 0);
        due(SQUARE, "audit(2, 0)", 0);
        due(SQUARE, "audit(3, 0)", BAD);
        due(SQUARE, "audit(" + LEAST + ", 0)", BAD);
        due(SQUARE, "audit(" + MOST + ", 0)", BAD);
        due("", "audit(0, 0)", 0);
        due("", "audit(1, 0)", BAD);
        due("begin(36)", "audit(1, 0)", BAD);
        due(FULL_ARRAY, "audit(7, 0)", 1);
        due(FULL_ARRAY, "audit(8, 0)", BAD);
        sentence(22, "BAD if what is out of range");
        due(SQUARE, "audit(1, -1)", BAD);
        due(SQUARE, "audit(1, 3)", 2);
        due(SQUARE, "audit(1, 4)", BAD);
        due(SQUARE, "audit(1, " + LEAST + ")", BAD);
        due(SQUARE, "audit(1, " + MOST + ")", BAD);
        due("", "audit(0, 4)", BAD);
        sentence(22, "0 how many of these sets there are in which the array is not balanced");
        due(FULL_ARRAY, "audit(0, 0)", 0);
        due(FULL_ARRAY, "audit(1, 0)", 7);
        due(FULL_ARRAY, "audit(2, 0)", 21);
        due(FULL_ARRAY, "audit(3, 0)", 35);
        due(FULL_ARRAY, "audit(6, 0)", 7);
        due("begin(36)", "audit(0, 0)", 0);
        sentence(22, "1 the least number of them (NONE if there is none)");
        due(SQUARE, "audit(0, 1)", NONE);
        due(SQUARE, "audit(1, 1)", NONE);
        due(SQUARE, "audit(2, 1)", NONE);
        due("", "audit(0, 1)", NONE);
        due("begin(36)", "audit(0, 1)", NONE);
        due(FULL_ARRAY, "audit(0, 1)", NONE);
        due(FULL_ARRAY, "audit(1, 1)", 1);
        due(FULL_ARRAY, "audit(2, 1)", 3);
        due(FULL_ARRAY, "audit(7, 1)", 127);
        due("factorial(222); addSum(0, 0, 0, 0)", "audit(1, 1)", 8);
        due("factorial(222); addSum(1, 1, 1, 0)", "audit(2, 1)", 10);
        due("factorial(222); addSum(1, 1, 2, 1)", "audit(3, 1)", 14);
        sentence(22, "2 the greatest number of rows in which a tuple of one of all these sets occurs, 3 the least");
        due("", "audit(0, 2)", 0);
        due("", "audit(0, 3)", 0);
        due("begin(36)", "audit(0, 2)", 36);
        due("begin(36)", "audit(0, 3)", 36);
        due(FULL_ARRAY, "audit(0, 3)", 36);
        due(FULL_ARRAY, "audit(1, 2)", 36);
        due(FULL_ARRAY, "audit(1, 3)", 0);
        due(FULL_ARRAY, "audit(7, 2)", 36);
        due(FULL_ARRAY, "audit(7, 3)", 0);
        due("factorial(66)", "audit(2, 2)", 1);
        due("factorial(66)", "audit(2, 3)", 1);
        due("factorial(66); dropRow(35)", "audit(2, 3)", 0);
        due("factorial(66); dropRow(35)", "audit(1, 3)", 5);
        due("factorial(66); dropRow(35)", "audit(1, 2)", 6);
        due("array(66666/55555/00000/55555)", "audit(5, 2)", 2);
        due("array(66666/55555/55555/00000)", "audit(5, 2)", 2);
        due("array(66666/00000/55555/55555)", "audit(5, 2)", 2);
        due("array(66666/00000/55555)", "audit(5, 2)", 1);
        due("array(66666/00000/55555)", "audit(5, 3)", 0);
        due("array(66666/00000/00000); audit(5, 2); put(1, 4, 5)", "audit(5, 2)", 1);
        due("array(26/00/01/12)", "audit(1, 2)", 2);
        due("array(2/0/1/1)", "audit(1, 2)", 2);
        due("array(2/0/1/1)", "audit(1, 3)", 1);
        due("array(2/0/0/1)", "audit(1, 3)", 1);
        due("array(62/00/10/20/30/41/51)", "audit(1, 3)", 1);
        due("array(62/00/10/20/30/41/51)", "audit(1, 2)", 4);
        sentence(22, "In an array without rows, each tuple occurs in none");
        due("7 x addColumn(6)", "audit(7, 0)", 0);
        due("7 x addColumn(6)", "audit(3, 1)", NONE);
        due("7 x addColumn(6)", "audit(7, 2)", 0);
        due("7 x addColumn(6)", "audit(0, 3)", 0);
    }

    private static void agreement() {
        sentence(23, "BAD if there is no such row");
        due(SQUARE, "agreement(-1, 0)", BAD);
        due(SQUARE, "agreement(0, -1)", BAD);
        due(SQUARE, "agreement(4, 0)", BAD);
        due(SQUARE, "agreement(0, 4)", BAD);
        due(SQUARE, "agreement(" + LEAST + ", 0)", BAD);
        due(SQUARE, "agreement(0, " + MOST + ")", BAD);
        due("", "agreement(0, 0)", BAD);
        due("7 x addColumn(2)", "agreement(0, 0)", BAD);
        due(FULL_ARRAY, "agreement(35, 36)", BAD);
        sentence(23, "Returns in how many columns they have the same level");
        due(SQUARE, "agreement(0, 3)", 0);
        due(SQUARE, "agreement(3, 2)", 1);
        due(SQUARE, "agreement(3, 3)", 2);
        due("begin(36)", "agreement(0, 35)", 0);
        due(FULL_ARRAY, "agreement(0, 35)", 7);
        due(FULL_ARRAY + "; put(35, 6, 1)", "agreement(35, 0)", 6);
    }

    private static void pairs() {
        sentence(24, "many: a number of columns, 0 to 7; BAD if many is out of range");
        due(FULL_ARRAY, "pairs(-1)", BAD);
        due(FULL_ARRAY, "pairs(0)", 0);
        due(FULL_ARRAY, "pairs(7)", 630);
        due(FULL_ARRAY, "pairs(8)", BAD);
        due("", "pairs(7)", 0);
        due("", "pairs(8)", BAD);
        due("", "pairs(-1)", BAD);
        due(SQUARE, "pairs(" + LEAST + ")", BAD);
        due(SQUARE, "pairs(" + MOST + ")", BAD);
        sentence(24, "pairs of different rows (by their numbers)");
        due("", "pairs(0)", 0);
        due("begin(1)", "pairs(0)", 0);
        due("begin(2)", "pairs(0)", 1);
        due("begin(36)", "pairs(0)", 630);
        due("7 x addColumn(2)", "pairs(7)", 0);
        due("array(2222222/0000000)", "pairs(7)", 0);
        due("array(2222222/0000000/0000000)", "pairs(7)", 1);
        sentence(24, "the same level in exactly so many columns");
        due(SQUARE, "pairs(0)", 2);
        due(SQUARE, "pairs(1)", 4);
        due(SQUARE, "pairs(2)", 0);
        due(FULL_ARRAY + "; put(35, 6, 5)", "pairs(6)", 35);
        due(FULL_ARRAY + "; put(35, 6, 5)", "pairs(7)", 595);
    }

    // ---- columns that can be added, and rows that can be spared

    private static void extension() {
        sentence(25, "levels: the number of levels of the new column, 2 to 6; BAD if levels is out of range");
        due("begin(6)", "extension(1, 0)", BAD);
        due("begin(6)", "extension(2, 5)", 1);
        due("begin(6)", "extension(6, 5)", 5);
        due("array(2" + "/0".repeat(6) + "/1".repeat(6) + ")", "extension(6, 5)", 5);
        due("array(2" + "/0".repeat(6) + "/1".repeat(6) + ")", "extension(6, 6)", 0);
        due("begin(6)", "extension(7, 0)", BAD);
        due("begin(6)", "extension(0, -1)", BAD);
        due("begin(6)", "extension(" + LEAST + ", 0)", BAD);
        due("begin(6)", "extension(" + MOST + ", 0)", BAD);
        sentence(25, "r: a row, or -1; BAD if r is neither a row nor -1");
        due(SQUARE, "extension(2, -2)", BAD);
        due(SQUARE, "extension(2, -1)", 4);
        due(SQUARE, "extension(2, 0)", 0);
        due(SQUARE, "extension(2, 3)", 0);
        due(SQUARE, "extension(2, 4)", BAD);
        due(SQUARE, "extension(2, " + LEAST + ")", BAD);
        due(SQUARE, "extension(2, " + MOST + ")", BAD);
        sentence(25, "STATE if the array has no rows");
        due("", "extension(2, -1)", STATE);
        due("7 x addColumn(2)", "extension(6, -1)", STATE);
        sentence(25, "STATE if the array has more than 16 rows");
        due("begin(16)", "extension(2, -1)", 16);
        due("begin(16)", "extension(2, 15)", 1);
        due("begin(17)", "extension(2, -1)", STATE);
        due("begin(17)", "extension(2, 16)", STATE);
        due("begin(18)", "extension(3, 0)", STATE);
        due(FULL_ARRAY, "extension(6, 35)", STATE);
        due("factorial(44)", "extension(4, -1)", 16);
        sentence(25, "BAD comes before STATE and NONE, STATE before NONE");
        due("", "extension(2, 0)", BAD);
        due("", "extension(1, -1)", BAD);
        due("", "extension(7, -1)", BAD);
        due("begin(17)", "extension(7, -1)", BAD);
        due("begin(17)", "extension(2, 17)", BAD);
        due("begin(17)", "extension(2, -2)", BAD);
        due("begin(5)", "extension(2, 5)", BAD);
        due("begin(5)", "extension(7, 0)", BAD);
        due("begin(17)", "extension(3, 0)", STATE);
        sentence(25, "NONE if there is no such column");
        due("begin(1)", "extension(2, -1)", NONE);
        due("begin(1)", "extension(2, 0)", NONE);
        due(SQUARE, "extension(4, 0)", NONE);
        due("array(222/000/011/101/110)", "extension(2, 3)", NONE);
        due("array(2/0/0/0/1)", "extension(2, 0)", NONE);
        due("factorial(44); addSum(0, 1, 1, 1)", "extension(4, -1)", NONE);
        due("array(2222222/0000000)", "extension(2, 0)", NONE);
        due("begin(4); extension(2, -1); begin(3)", "extension(2, -1)", NONE);
        due("array(222/000/011/101/110); extension(2, -1); begin(3)", "extension(2, -1)", NONE);
        due("array(222" + "/000/011/101/110".repeat(2) + "); extend(4); extension(4, -1); array(2/0/0/0/1)",
                "extension(2, -1)", NONE);
        due("factorial(222); addSum(0, 1, 1, 1); addSum(0, 1, 2, 1); addSum(1, 1, 2, 1); addSum(3, 1, 2, 1);"
                + " extension(2, -1); array(2/0/0/0/1)", "extension(2, -1)", NONE);
        due("begin(4); extension(2, -1)", "extension(3, -1)", NONE);
        due("begin(4); extension(3, -1)", "extension(2, -1)", 4);
        due(SQUARE + "; extension(2, -1); put(0, 0, 1)", "extension(2, -1)", NONE);
        due(SQUARE + "; put(0, 0, 1); extension(2, -1); undo()", "extension(2, 1)", 1);
        sentence(25, "and in the new column alone: an array without columns");
        due("begin(2)", "extension(2, 0)", 0);
        due("begin(2)", "extension(2, 1)", 1);
        due("begin(3)", "extension(2, -1)", NONE);
        due("begin(4)", "extension(3, -1)", NONE);
        due("begin(6)", "extension(3, -1)", 6);
        due("begin(6)", "extension(3, 3)", 1);
        due("begin(6)", "extension(4, -1)", NONE);
        due("begin(16)", "extension(2, 7)", 0);
        due("begin(16)", "extension(2, 8)", 1);
        sentence(25, "the lexicographically smallest column, read from row 0 to the last one");
        due(SQUARE, "extension(2, 1)", 1);
        due(SQUARE, "extension(2, 2)", 1);
        due("array(2/0/0/1/1)", "extension(2, 2)", 0);
        due("array(2/0/1/1/0)", "extension(2, 1)", 0);
        due("array(2/0/1/1/0)", "extension(2, 3)", 1);
        // The document names no FULL here: what is told of 7 columns does not append an eighth one.
        sentence(25, "a full array: extension() appends nothing");
        String eights = "array(2222222" + "/0000000".repeat(8) + "/1111111".repeat(8) + ")";
        due(eights, "extension(2, -1)", 16);
        due(eights, "extension(2, 3)", 0);
        due(eights, "extension(2, 4)", 1);
        due(eights, "extension(2, 12)", 1);
    }

    private static void extend() {
        sentence(26, "levels: its number of levels, 2 to 6; BAD if levels is out of range");
        due("begin(6)", "extend(1)", BAD);
        due("begin(6)", "extend(2)", 0);
        due("begin(6)", "extend(6)", 0);
        due("begin(6)", "extend(7)", BAD);
        due("begin(6)", "extend(" + LEAST + ")", BAD);
        due("begin(6)", "extend(" + MOST + ")", BAD);
        sentence(26, "STATE if the array has no rows");
        due("", "extend(2)", STATE);
        due("addColumn(2)", "extend(2)", STATE);
        sentence(26, "STATE if the array has more than 16 rows");
        due("begin(16)", "extend(4)", 0);
        due("begin(17)", "extend(4)", STATE);
        due("begin(18)", "extend(2)", STATE);
        due("begin(36); addColumn(2)", "extend(2)", STATE);
        sentence(26, "FULL if there are 7 columns");
        String six = "array(222222" + "/000000".repeat(2) + "/111111".repeat(2) + ")";
        String seven = "array(2222222" + "/0000000".repeat(2) + "/1111111".repeat(2) + ")";
        due(six, "extend(2)", 6);
        due(seven, "extend(2)", FULL);
        sentence(26, "BAD comes before STATE and FULL, STATE before FULL, all before NONE");
        due("", "extend(1)", BAD);
        due("begin(17)", "extend(7)", BAD);
        due(seven, "extend(7)", BAD);
        due(seven, "extend(1)", BAD);
        due("7 x addColumn(2)", "extend(7)", BAD);
        due("7 x addColumn(2)", "extend(2)", STATE);
        due(FULL_ARRAY, "extend(2)", STATE);
        due(FULL_ARRAY, "extend(7)", BAD);
        due(SEVEN_COLUMNS, "extend(2)", FULL);
        due(seven, "extend(3)", FULL);
        due("begin(5)", "extend(7)", BAD);
        due("begin(17)", "extend(3)", STATE);
        sentence(26, "NONE if there is no such column (this is no change then)");
        due("begin(1)", "extend(2)", NONE);
        due(SQUARE, "extend(3)", NONE);
        due("array(222/000/011/101/110)", "extend(2)", NONE);
        isNoChange("begin(1)", "extend(2)");
        isNoChange("array(222/000/011/101/110)", "extend(2)");
        sentence(26, "Appends the column that extension() tells");
        dueArray("begin(6); extend(6)", "6/0/1/2/3/4/5");
        dueArray(SQUARE + "; extend(2)", "222/000/011/101/110");
        dueArray(SQUARE + "; extension(2, 0); extend(2)", "222/000/011/101/110");
        dueArray("begin(4); 3 x extend(2)", "222/000/011/101/110");
        sentence(26, "This is a change");
        isChange("begin(6)", "extend(6)");
        isChange(SQUARE, "extend(2)");
        isChange(six, "extend(2)");
    }

    private static void spare() {
        sentence(27, "t: the strength, 1 to the number of columns; BAD if t is out of range");
        due(SQUARE, "spare(0)", BAD);
        due(SQUARE, "spare(1)", 6);
        due(SQUARE, "spare(2)", 0);
        due(SQUARE, "spare(3)", BAD);
        due(SQUARE, "spare(-1)", BAD);
        due(SQUARE, "spare(" + LEAST + ")", BAD);
        due(SQUARE, "spare(" + MOST + ")", BAD);
        due("begin(3)", "spare(1)", BAD);
        due("begin(3)", "spare(0)", BAD);
        due(SEVEN_COLUMNS, "spare(7)", NONE);
        due(SEVEN_COLUMNS, "spare(8)", BAD);
        sentence(27, "STATE if the array has no rows");
        due("addColumn(2)", "spare(1)", STATE);
        due("7 x addColumn(6)", "spare(7)", STATE);
        sentence(27, "STATE if the array has more than 12 rows");
        due("array(2" + "/0/1".repeat(6) + ")", "spare(1)", 1023);
        due("array(2" + "/0/1".repeat(6) + "/0)", "spare(1)", STATE);
        due("array(2" + "/0/1".repeat(7) + ")", "spare(1)", STATE);
        due(FULL_ARRAY, "spare(1)", STATE);
        sentence(27, "BAD comes before STATE and NONE, STATE before NONE");
        due("", "spare(1)", BAD);
        due("", "spare(0)", BAD);
        due("addColumn(2)", "spare(0)", BAD);
        due("addColumn(2)", "spare(2)", BAD);
        due("begin(13)", "spare(1)", BAD);
        due(FULL_ARRAY, "spare(8)", BAD);
        due(FULL_ARRAY, "spare(0)", BAD);
        due("array(2/0)", "spare(2)", BAD);
        due("array(2" + "/0".repeat(13) + ")", "spare(1)", STATE);
        sentence(27, "NONE if the array does not have this strength");
        due("array(2/0)", "spare(1)", NONE);
        due("array(2/0/0/1)", "spare(1)", NONE);
        due("array(22/00/11)", "spare(2)", NONE);
        due("array(22/00/01/10/11/11)", "spare(2)", NONE);
        due("array(2" + "/0".repeat(12) + ")", "spare(1)", NONE);
        sentence(27, "0 if no row can be spared, but the array has this strength");
        due("array(2/0/1)", "spare(1)", 0);
        due("array(6/0/1/2/3/4/5)", "spare(1)", 0);
        due("array(222/000/011/101/110)", "spare(1)", 0);
        due("factorial(223)", "spare(3)", 0);
        sentence(27, "but not of all rows");
        due("array(2/0/1/0/1)", "spare(1)", 3);
        due("array(3/2/1/0/0/1/2)", "spare(1)", 7);
        sentence(27, "of several sets, the least one, read as a number");
        due("array(2/0/0/1/1)", "spare(1)", 5);
        due("array(2/1/0/0/0/1/1)", "spare(1)", 23);
        due("array(22/00/01/00/10/11/01/11/10)", "spare(2)", 27);
        sentence(27, "a greatest set of rows");
        due("array(22/00/00/11/11/01/10)", "spare(1)", 15);
        due("factorial(223)", "spare(2)", 0);
        due("factorial(26)", "spare(1)", 504);
    }

    // ---- images and isomorphisms

    private static void keep() {
        sentence(28, "i: the image, 0 or 1; BAD if there is no such image");
        due(SQUARE, "keep(-1)", BAD);
        due(SQUARE, "keep(0)", 4);
        due(SQUARE, "keep(1)", 4);
        due(SQUARE, "keep(2)", BAD);
        due(SQUARE, "keep(" + LEAST + ")", BAD);
        due(SQUARE, "keep(" + MOST + ")", BAD);
        due("", "keep(2)", BAD);
        sentence(28, "Keeps the array: also one without rows, or without columns, or a full one");
        due("", "keep(0)", 0);
        due("keep(0)", "back(0)", 0);
        due("7 x addColumn(2)", "keep(1)", 0);
        dueArray("7 x addColumn(2); keep(1); " + SQUARE + "; back(1)", "2222222");
        due("begin(36)", "keep(0)", 36);
        dueArray("begin(3); keep(0); " + SQUARE + "; back(0)", "///");
        due(FULL_ARRAY, "keep(1)", 36);
        due(FULL_ARRAY + "; put(35, 6, 5); keep(1); begin(0); back(1)", "cell(35, 6)", 5);
        sentence(28, "replacing what it kept before");
        due(FULL_ARRAY + "; keep(0); begin(0); keep(0)", "back(0)", 0);
        dueArray(SQUARE + "; keep(0); begin(0); keep(0); back(0)", "");
        dueArray("begin(1); keep(0); " + SQUARE + "; keep(0); begin(0); back(0)", "22/00/01/10/11");
        dueArray("begin(1); keep(0); " + SQUARE + "; keep(1); begin(0); back(0)", "/");
        dueArray("begin(1); keep(0); " + SQUARE + "; keep(1); begin(0); back(1)", "22/00/01/10/11");
        sentence(28, "is no change");
        isNoChange("", "keep(0)");
        isNoChange(SQUARE, "keep(1)");
        dueArray(SQUARE + "; keep(1)", "22/00/01/10/11");
    }

    private static void back() {
        sentence(29, "BAD if there is no such image");
        due(SQUARE + "; keep(0); keep(1)", "back(-1)", BAD);
        due(SQUARE + "; keep(0); keep(1)", "back(0)", 4);
        due(SQUARE + "; keep(0); keep(1)", "back(1)", 4);
        due(SQUARE + "; keep(0); keep(1)", "back(2)", BAD);
        due(SQUARE + "; keep(0); keep(1)", "back(" + LEAST + ")", BAD);
        due(SQUARE + "; keep(0); keep(1)", "back(" + MOST + ")", BAD);
        due("", "back(2)", BAD);
        due("", "back(-1)", BAD);
        sentence(29, "STATE if it keeps nothing");
        due(SQUARE, "back(0)", STATE);
        due(SQUARE, "back(1)", STATE);
        due(SQUARE + "; keep(0)", "back(1)", STATE);
        due(SQUARE + "; keep(1)", "back(0)", STATE);
        sentence(29, "Returns the number of rows");
        due("keep(1); " + SQUARE, "back(1)", 0);
        due(FULL_ARRAY + "; keep(0); begin(0)", "back(0)", 36);
        sentence(29, "the image stays");
        dueArray(SQUARE + "; keep(0); begin(0); back(0); put(0, 0, 1); back(0)", "22/00/01/10/11");
        due(SQUARE + "; keep(0); begin(1); back(0); undo()", "told(0)", 1);
        sentence(29, "This is a change");
        isChange("keep(0)", "back(0)");
        isChange(SQUARE + "; keep(0)", "back(0)");
        isChange(FULL_ARRAY + "; keep(1); begin(0)", "back(1)");
    }

    private static void isIsomorphic() {
        sentence(30, "BAD if there is no such image");
        due(SQUARE + "; keep(0); keep(1)", "isIsomorphic(-1)", BAD);
        due(SQUARE + "; keep(0); keep(1)", "isIsomorphic(0)", 1);
        due(SQUARE + "; keep(0); keep(1)", "isIsomorphic(1)", 1);
        due(SQUARE + "; keep(0); keep(1)", "isIsomorphic(2)", BAD);
        due(SQUARE + "; keep(0); keep(1)", "isIsomorphic(" + LEAST + ")", BAD);
        due(SQUARE + "; keep(0); keep(1)", "isIsomorphic(" + MOST + ")", BAD);
        sentence(30, "STATE if it keeps nothing");
        due("", "isIsomorphic(0)", STATE);
        due("", "isIsomorphic(1)", STATE);
        due(SQUARE + "; keep(0)", "isIsomorphic(1)", STATE);
        due(SQUARE + "; keep(1)", "isIsomorphic(0)", STATE);
        sentence(30, "STATE if the array has more than 18 rows");
        due("begin(18); 7 x addColumn(4); keep(0)", "isIsomorphic(0)", 1);
        due("begin(19); 6 x addColumn(4); keep(0)", "isIsomorphic(0)", STATE);
        due("begin(19); keep(0)", "isIsomorphic(0)", STATE);
        due("begin(18); keep(0)", "isIsomorphic(0)", 1);
        due("begin(18); keep(0); begin(19)", "isIsomorphic(0)", STATE);
        due("begin(19); keep(0); begin(18)", "isIsomorphic(0)", 0);
        sentence(30, "STATE if the array has a column with more than 4 levels");
        due("array(24/13); keep(0)", "isIsomorphic(0)", 1);
        due("array(25/13); keep(0)", "isIsomorphic(0)", STATE);
        due("array(52/31); keep(0)", "isIsomorphic(0)", STATE);
        due("array(2222225); keep(0)", "isIsomorphic(0)", STATE);
        due("array(25/13); keep(0); array(24/13)", "isIsomorphic(0)", 0);
        due("array(24/13); keep(0); array(26/13)", "isIsomorphic(0)", STATE);
        due(FULL_ARRAY + "; keep(1)", "isIsomorphic(1)", STATE);
        due(FULL_ARRAY + "; keep(1); begin(0)", "isIsomorphic(1)", 0);
        due("array(666); keep(1); array(444)", "isIsomorphic(1)", 0);
        sentence(30, "BAD comes before STATE");
        due("", "isIsomorphic(2)", BAD);
        due("begin(19)", "isIsomorphic(2)", BAD);
        due("array(5/0)", "isIsomorphic(-1)", BAD);
        sentence(30, "with the same numbers of rows and columns");
        due("keep(0)", "isIsomorphic(0)", 1);
        due("keep(0); begin(1)", "isIsomorphic(0)", 0);
        due("begin(1); keep(0); begin(0)", "isIsomorphic(0)", 0);
        due("addColumn(2); keep(0); addColumn(2)", "isIsomorphic(0)", 0);
        due("2 x addColumn(2); keep(0); dropColumn(0)", "isIsomorphic(0)", 0);
        due("addColumn(2); keep(0)", "isIsomorphic(0)", 1);
        due("7 x addColumn(4); keep(0)", "isIsomorphic(0)", 1);
        due("array(2/0/1); keep(0); array(2/0/1/1)", "isIsomorphic(0)", 0);
        due("array(2/0/1/1); keep(0); array(2/0/1)", "isIsomorphic(0)", 0);
        sentence(30, "columns which have the same numbers of levels");
        due("array(234); keep(0); array(423)", "isIsomorphic(0)", 1);
        due("array(23); keep(0); array(24)", "isIsomorphic(0)", 0);
        due("array(223); keep(0); array(233)", "isIsomorphic(0)", 0);
        due("array(2/0/1); keep(0); array(3/0/1)", "isIsomorphic(0)", 0);
        due("array(3/0/1); keep(0); array(2/0/1)", "isIsomorphic(0)", 0);
        sentence(30, "rows that occur several times do so in both");
        due("array(2/0/0/1); keep(0); array(2/1/0/1)", "isIsomorphic(0)", 1);
        due("array(22/00/00/01/10/11/11); keep(0); array(22/00/00/01/01/10/11)", "isIsomorphic(0)", 0);
        due("array(22/00/00/11); keep(0); array(22/01/10/01)", "isIsomorphic(0)", 1);
        due("array(22/00/11); keep(0); array(22/00/00)", "isIsomorphic(0)", 0);
        due("array(22/00/00); keep(0); array(22/00/11)", "isIsomorphic(0)", 0);
        sentence(30, "the rows are the rows of the other array in some order: the array or the image has changed");
        due("array(2/0/1); keep(0); isIsomorphic(0); put(0, 0, 1)", "isIsomorphic(0)", 0);
        due("array(2/0/1); keep(0); put(0, 0, 1); isIsomorphic(0); undo()", "isIsomorphic(0)", 1);
        due("array(2/0/1); keep(0); put(0, 0, 1); isIsomorphic(0); keep(0)", "isIsomorphic(0)", 1);
        due("array(2/0/1); keep(0); put(0, 0, 1); isIsomorphic(0); keep(1)", "isIsomorphic(1)", 1);
        due("array(2/0/1); keep(0); put(0, 0, 1); keep(1); isIsomorphic(1)", "isIsomorphic(0)", 0);
    }

    private static void mapped() {
        String kept = "array(23/00/01/12); keep(0)";
        sentence(31, "BAD if there is no such image");
        due(kept, "mapped(-1, 0, 0)", BAD);
        due(kept, "mapped(0, 0, 0)", 0);
        due(kept + "; keep(1)", "mapped(1, 0, 0)", 0);
        due(kept + "; keep(1)", "mapped(2, 0, 0)", BAD);
        due(kept, "mapped(" + LEAST + ", 0, 0)", BAD);
        due(kept, "mapped(" + MOST + ", 0, 0)", BAD);
        sentence(31, "BAD if there is no such column");
        due(kept, "mapped(0, -1, 0)", BAD);
        due(kept, "mapped(0, 1, 0)", 0);
        due(kept, "mapped(0, 2, 0)", BAD);
        due(kept, "mapped(0, -1, -1)", BAD);
        due(kept, "mapped(0, 2, -1)", BAD);
        due(kept, "mapped(0, " + LEAST + ", 0)", BAD);
        due(kept, "mapped(0, " + MOST + ", 0)", BAD);
        due("keep(0)", "mapped(0, 0, -1)", BAD);
        due("begin(18); keep(0)", "mapped(0, 0, -1)", BAD);
        due("7 x addColumn(2); keep(0)", "mapped(0, 6, 1)", 1);
        due("7 x addColumn(2); keep(0)", "mapped(0, 7, 1)", BAD);
        sentence(31, "v: -1, or a level of this column; BAD if there is no such level");
        due(kept, "mapped(0, 0, -2)", BAD);
        due(kept, "mapped(0, 0, -1)", 0);
        due(kept, "mapped(0, 0, 1)", 1);
        due(kept, "mapped(0, 0, 2)", BAD);
        due(kept, "mapped(0, 1, 2)", 2);
        due(kept, "mapped(0, 1, 3)", BAD);
        due(kept, "mapped(0, 1, " + LEAST + ")", BAD);
        due(kept, "mapped(0, 1, " + MOST + ")", BAD);
        due("array(4444444/3333333); keep(0)", "mapped(0, 6, 3)", 3);
        due("array(4444444/3333333); keep(0)", "mapped(0, 6, 4)", BAD);
        sentence(31, "STATE if the image keeps nothing");
        due("array(2/0)", "mapped(0, 0, 0)", STATE);
        due("array(2/0)", "mapped(1, 0, -1)", STATE);
        due(kept, "mapped(1, 0, 0)", STATE);
        sentence(31, "STATE if the array has more than 18 rows");
        due("begin(18); addColumn(2); keep(0)", "mapped(0, 0, 1)", 1);
        due("begin(19); addColumn(2); keep(0)", "mapped(0, 0, 1)", STATE);
        sentence(31, "STATE if the array has a column with more than 4 levels");
        due("array(4/3); keep(0)", "mapped(0, 0, 3)", 3);
        due("array(5/3); keep(0)", "mapped(0, 0, 3)", STATE);
        due("array(25/13); keep(0)", "mapped(0, 0, -1)", STATE);
        due("array(25/13); keep(0)", "mapped(0, 1, 4)", STATE);
        sentence(31, "BAD comes before STATE and NONE, STATE before NONE");
        due("", "mapped(0, 0, 0)", BAD);
        due("array(2/0)", "mapped(0, 1, 0)", BAD);
        due("array(2/0)", "mapped(0, 0, 2)", BAD);
        due("array(2/0)", "mapped(0, 0, -2)", BAD);
        due("begin(19); addColumn(2); keep(0)", "mapped(2, 0, 0)", BAD);
        due("begin(19); addColumn(2); keep(0)", "mapped(0, 1, 0)", BAD);
        due("array(5/0); keep(0)", "mapped(0, 0, 5)", BAD);
        due(kept + "; put(0, 0, 1)", "mapped(0, 1, 3)", BAD);
        due(kept + "; put(0, 0, 1)", "mapped(0, 2, 0)", BAD);
        due("array(4/0); keep(0); array(5/0)", "mapped(0, 0, 0)", STATE);
        due("begin(18); addColumn(2); keep(0); begin(19); addColumn(2)", "mapped(0, 0, 0)", STATE);
        sentence(31, "NONE if there is no isomorphism");
        due(kept + "; put(1, 1, 0)", "mapped(0, 0, -1)", NONE);
        due(kept + "; put(1, 1, 0)", "mapped(0, 1, 2)", NONE);
        due(kept + "; dropRow(0)", "mapped(0, 0, 0)", NONE);
        due(kept + "; dropColumn(0)", "mapped(0, 0, 0)", NONE);
        due("keep(0); array(2)", "mapped(0, 0, 0)", NONE);
        due(FULL_ARRAY + "; keep(0); array(4444444)", "mapped(0, 6, 3)", NONE);
        due("array(5/0); keep(0); array(4/0)", "mapped(0, 0, 0)", NONE);
        sentence(31, "the lexicographically smallest list is meant");
        dueList("7 x addColumn(4); keep(0)", 0, "00123101232012330123401235012360123");
        dueList("array(22/01/10); keep(0); array(22/00/11)", 0, "001110");
        dueList("array(33/00/11/22); keep(0)", 0, "00121012");
        dueList("array(33/02/11/20); keep(0); array(33/00/11/22)", 0, "00121210");
        dueList("array(444/000/001); keep(0); array(444/300/000)", 0, "202310012310123");
        dueList("array(32/21/00/11); keep(0); array(23/00/01/12)", 0, "1100120");
    }

    // ---- refused calls

    /** Eight states, two images, a text with a fault, and a column and an isomorphism that have been found. */
    private static void refusals() {
        String full = FULL_HISTORY + "; begin(3); array(3/0/1/2); keep(1); array(22/00/10/01/11); keep(0);"
                + " array(22/11/10/00/01); write(47); extension(2, 0); mapped(0, 0, 0)";
        String[] refused = {"2 begin(37)", "3 addColumn(7)", "4 dropColumn(2)", "5 put(0, 0, 2)", "5 put(4, 0, 0)",
            "5 put(0, 2, 0)", "6 dropRow(4)", "9 factorial(27)", "9 factorial(22222222)", "10 addSum(2, 1, 0, 1)",
            "10 addSum(0, 6, 1, 1)", "11 replace(2, 0)", "11 replace(0, 2)", "14 write(31)", "14 write(127)",
            "18 told(9)", "19 levels(2)", "20 cell(4, 0)", "20 cell(0, 2)", "21 count(4, 0)", "21 count(3, 4)",
            "22 audit(3, 0)", "22 audit(2, 4)", "23 agreement(0, 4)", "24 pairs(8)", "25 extension(7, 0)",
            "25 extension(2, 4)", "26 extend(7)", "27 spare(3)", "27 spare(0)", "28 keep(2)", "29 back(2)",
            "30 isIsomorphic(2)", "31 mapped(0, 0, 2)", "31 mapped(2, 0, 0)"};
        for (String call : refused) {
            sentence(Integer.parseInt(call.split(" ")[0]), "A call that returns BAD changes nothing");
            due(full, call.substring(call.indexOf(' ') + 1), BAD);
        }
        sentence(9, "A call that returns FULL changes nothing");
        due(full, "factorial(666)", FULL);
        sentence(11, "A call that returns STATE changes nothing");
        due(full, "replace(0, 0)", STATE);
        due(full, "replace(1, 1)", STATE);
        sentence(17, "A call that returns STATE changes nothing");
        due(full, "load()", STATE);
        sentence(12, "A call that returns STATE changes nothing");
        due(full + "; put(0, 0, 0)", "develop()", STATE);
    }

    private static void refusalsOfFullArrays() {
        String full = "array(2/0/1); keep(0); array(22/00/11); keep(1); begin(36); 7 x addColumn(2); put(35, 6, 1);"
                + " write(47)";
        String[] refused = {"3 addColumn(2)", "10 addSum(0, 1, 1, 1)", "11 replace(6, 1)"};
        for (String call : refused) {
            sentence(Integer.parseInt(call.split(" ")[0]), "A call that returns FULL changes nothing");
            due(full, call.substring(call.indexOf(' ') + 1), FULL);
        }
        String[] impossible = {"12 develop()", "17 load()", "25 extension(2, 35)", "26 extend(2)", "27 spare(7)",
            "30 isIsomorphic(0)", "31 mapped(1, 6, 1)"};
        for (String call : impossible) {
            sentence(Integer.parseInt(call.split(" ")[0]), "A call that returns STATE changes nothing");
            due(full, call.substring(call.indexOf(' ') + 1), STATE);
        }
        sentence(12, "A call that returns FULL changes nothing");
        due("array(2/0/1); keep(0); begin(19); addColumn(2); put(18, 0, 1)", "develop()", FULL);
        sentence(14, "A call that returns FULL changes nothing");
        due("array(2/0/1); wipe(); type(2" + "/0".repeat(36) + "); 227 x write(48)", "write(48)", FULL);
        sentence(26, "A call that returns FULL changes nothing");
        due("array(2222222/0000000/1111111); extension(2, 0)", "extend(2)", FULL);
        sentence(29, "A call that returns STATE changes nothing");
        due("array(2/0/1); keep(0); begin(3)", "back(1)", STATE);
    }
}
