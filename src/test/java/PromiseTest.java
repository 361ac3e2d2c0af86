/** Each promise of the document with ordinary calls, the edges that it names, and wrong arguments. */
public final class PromiseTest {
    private static final int BAD = -1, STATE = -2, FULL = -3, NONE = -9;
    private static final int[] EXTREMES = {Integer.MIN_VALUE, Integer.MIN_VALUE + 1, -1000, Integer.MAX_VALUE - 1,
        Integer.MAX_VALUE};
    private static int promise = 0;
    private static int checks = 0;
    private static int wrong = 0;

    public static void main(String[] args) {
        newObject();
        begin();
        addColumn();
        dropColumn();
        put();
        dropRow();
        dropCopies();
        sort();
        factorial();
        addSum();
        replace();
        develop();
        undo();
        undoesEveryChange();
        write();
        wipe();
        fault();
        load();
        told();
        toldBounds();
        levels();
        cell();
        count();
        audit();
        agreement();
        pairs();
        extension();
        extend();
        spare();
        keep();
        back();
        isIsomorphic();
        mapped();
        extremes();
        System.out.println(checks + " answers checked, " + wrong + " wrong");
        if (wrong != 0) {
            System.exit(1);
        }
    }

    private static void due(String call, int got, int want) {
        checks++;
        if (got != want) {
            wrong++;
            System.out.println("promise " + promise + ": " + call + " answered " + got + ", due is " + want);
        }
    }

    /** A bench whose array is read from the text; nothing can be undone but this load. */
    private static ArrayBench bench(String text) {
        ArrayBench x = new ArrayBench();
        show(x, text);
        return x;
    }

    private static void show(ArrayBench x, String text) {
        type(x, text);
        due("load of " + text, x.load(), text.length() - text.replace("/", "").length());
    }

    private static void type(ArrayBench x, String text) {
        x.wipe();
        for (int i = 0; i < text.length(); i++) {
            due("write", x.write(text.charAt(i)), i + 1);
        }
    }

    /** The array of a bench, as a text. */
    private static String text(ArrayBench x) {
        StringBuilder text = new StringBuilder();
        for (int c = 0; c < x.told(1); c++) {
            text.append(x.levels(c));
        }
        for (int r = 0; r < x.told(0); r++) {
            text.append('/');
            for (int c = 0; c < x.told(1); c++) {
                text.append(x.cell(r, c));
            }
        }
        return text.toString();
    }

    private static void dueText(ArrayBench x, String want) {
        checks++;
        if (!text(x).equals(want)) {
            wrong++;
            System.out.println("promise " + promise + ": the array is " + text(x) + ", due is " + want);
        }
    }

    /** The list of the isomorphism to an image, as a text. */
    private static void dueList(ArrayBench x, int i, String want) {
        StringBuilder list = new StringBuilder();
        for (int c = 0; c < x.told(1); c++) {
            for (int v = -1; v < x.levels(c); v++) {
                list.append(x.mapped(i, c, v));
            }
        }
        checks++;
        if (!list.toString().equals(want)) {
            wrong++;
            System.out.println("promise " + promise + ": the list is " + list + ", due is " + want);
        }
    }

    private static void newObject() {
        promise = 1;
        due("BAD", ArrayBench.BAD, -1);
        due("STATE", ArrayBench.STATE, -2);
        due("FULL", ArrayBench.FULL, -3);
        due("NONE", ArrayBench.NONE, -9);
        ArrayBench x = new ArrayBench();
        int[] told = {0, 0, 0, 0, 0, 1, 1, 0, 0};
        for (int what = 0; what < told.length; what++) {
            due("told(" + what + ")", x.told(what), told[what]);
        }
        due("undo()", x.undo(), STATE);
        due("back(0)", x.back(0), STATE);
        due("back(1)", x.back(1), STATE);
        due("isIsomorphic(0)", x.isIsomorphic(0), STATE);
        due("isIsomorphic(1)", x.isIsomorphic(1), STATE);
        due("fault()", x.fault(), 0);
        due("wipe()", x.wipe(), 0);
        new ArrayBench().begin(5);
        due("another object", x.told(0), 0);
    }

    private static void begin() {
        promise = 2;
        ArrayBench x = bench("23/01/12");
        due("begin(36)", x.begin(36), 2);
        due("columns", x.told(1), 0);
        due("rows", x.told(0), 36);
        due("begin(37)", x.begin(37), BAD);
        due("begin(-1)", x.begin(-1), BAD);
        due("rows after wrong calls", x.told(0), 36);
        due("changes", x.told(7), 2);
        due("begin(0)", x.begin(0), 36);
        due("begin(0)", x.begin(0), 0);
        due("changes", x.told(7), 4);
        due("strength of no columns", x.told(2), 0);
    }

    private static void addColumn() {
        promise = 3;
        ArrayBench x = new ArrayBench();
        x.begin(2);
        due("addColumn(1)", x.addColumn(1), BAD);
        due("addColumn(7)", x.addColumn(7), BAD);
        for (int c = 0; c < 7; c++) {
            due("addColumn", x.addColumn(2 + c % 5), c);
        }
        dueText(x, "2345623/0000000/0000000");
        due("changes", x.told(7), 8);
        due("addColumn(2) when full", x.addColumn(2), FULL);
        due("addColumn(7) when full", x.addColumn(7), BAD);
        dueText(x, "2345623/0000000/0000000");
        x = bench("22/11/11");
        x.dropColumn(1);
        x.addColumn(3);
        dueText(x, "23/10/10");
        x.dropRow(0);
        x.begin(2);
        x.addColumn(2);
        dueText(x, "2/0/0");
    }

    private static void dropColumn() {
        promise = 4;
        ArrayBench x = bench("2345/0123/1234");
        due("dropColumn(4)", x.dropColumn(4), BAD);
        due("dropColumn(-1)", x.dropColumn(-1), BAD);
        dueText(x, "2345/0123/1234");
        due("dropColumn(1)", x.dropColumn(1), 3);
        dueText(x, "245/023/134");
        due("dropColumn(2)", x.dropColumn(2), 2);
        due("dropColumn(0)", x.dropColumn(0), 1);
        dueText(x, "4/2/3");
        due("dropColumn(0)", x.dropColumn(0), 0);
        due("rows stay", x.told(0), 2);
        due("dropColumn(0)", x.dropColumn(0), BAD);
    }

    private static void put() {
        promise = 5;
        ArrayBench x = bench("26/00/15");
        due("put(1, 1, 3)", x.put(1, 1, 3), 5);
        due("put(0, 0, 1)", x.put(0, 0, 1), 0);
        dueText(x, "26/10/13");
        due("put of the same level", x.put(0, 0, 1), 1);
        due("changes", x.told(7), 4);
        due("put(2, 0, 0)", x.put(2, 0, 0), BAD);
        due("put(-1, 0, 0)", x.put(-1, 0, 0), BAD);
        due("put(0, 2, 0)", x.put(0, 2, 0), BAD);
        due("put(0, -1, 0)", x.put(0, -1, 0), BAD);
        due("put(0, 0, 2)", x.put(0, 0, 2), BAD);
        due("put(0, 1, 6)", x.put(0, 1, 6), BAD);
        due("put(0, 0, -1)", x.put(0, 0, -1), BAD);
        due("changes", x.told(7), 4);
        dueText(x, "26/10/13");
    }

    private static void dropRow() {
        promise = 6;
        ArrayBench x = bench("3/0/1/2/1");
        due("dropRow(4)", x.dropRow(4), BAD);
        due("dropRow(-1)", x.dropRow(-1), BAD);
        due("dropRow(1)", x.dropRow(1), 3);
        dueText(x, "3/0/2/1");
        due("dropRow(2)", x.dropRow(2), 2);
        due("dropRow(0)", x.dropRow(0), 1);
        dueText(x, "3/2");
        due("dropRow(0)", x.dropRow(0), 0);
        due("dropRow(0)", x.dropRow(0), BAD);
        dueText(x, "3");
    }

    private static void dropCopies() {
        promise = 7;
        ArrayBench x = bench("23/12/00/12/01/00/12");
        due("dropCopies()", x.dropCopies(), 3);
        dueText(x, "23/12/00/01");
        due("dropCopies()", x.dropCopies(), 0);
        due("changes", x.told(7), 3);
        x.begin(5);
        due("dropCopies() without columns", x.dropCopies(), 4);
        due("rows", x.told(0), 1);
        x.begin(0);
        due("dropCopies() without rows", x.dropCopies(), 0);
    }

    private static void sort() {
        promise = 8;
        ArrayBench x = bench("23/12/00/12/01/00");
        // 12 stands before 00, 01 and 00; 12 before 01 and 00; 01 before 00.
        due("sort()", x.sort(), 6);
        dueText(x, "23/00/00/01/12/12");
        due("sort()", x.sort(), 0);
        due("changes", x.told(7), 3);
        due("sort() of the reverse", bench("4/3/2/1/0").sort(), 6);
        due("sort() of equal rows", bench("4/3/3/3").sort(), 0);
        due("sort() of nothing", new ArrayBench().sort(), 0);
        x.begin(3);
        due("sort() without columns", x.sort(), 0);
    }

    private static void factorial() {
        promise = 9;
        ArrayBench x = bench("22/00");
        due("factorial(23)", x.factorial(23), 6);
        dueText(x, "23/00/01/02/10/11/12");
        due("factorial(2)", x.factorial(2), 2);
        dueText(x, "2/0/1");
        due("factorial(6)", x.factorial(6), 6);
        due("factorial(66)", x.factorial(66), 36);
        due("factorial(22222)", x.factorial(22222), 32);
        due("factorial(322)", x.factorial(322), 12);
        dueText(x, "322/000/001/010/011/100/101/110/111/200/201/210/211");
        int[] bad = {1, 0, -1, -22, 7, 17, 71, 20, 202, 12, 28, 2222227, 7222222, 22222222, 66666666, 2000000000};
        for (int levels : bad) {
            due("factorial(" + levels + ")", x.factorial(levels), BAD);
        }
        int[] full = {222222, 2222222, 6666666, 333322, 662, 444, 3333, 235222, 65432};
        for (int levels : full) {
            due("factorial(" + levels + ")", x.factorial(levels), FULL);
        }
        due("rows", x.told(0), 12);
        due("changes", x.told(7), 7);
    }

    private static void addSum() {
        promise = 10;
        ArrayBench x = new ArrayBench();
        x.factorial(33);
        due("addSum(0, 1, 1, 2)", x.addSum(0, 1, 1, 2), 2);
        dueText(x, "333/000/012/021/101/110/122/202/211/220");
        due("addSum(1, 5, 1, 0)", x.addSum(1, 5, 1, 0), 3);
        due("cell(1, 3)", x.cell(1, 3), 2);
        due("addSum(1, 0, 1, 0)", x.addSum(1, 0, 1, 0), 4);
        due("cell(8, 4)", x.cell(8, 4), 0);
        due("addSum(0, 6, 1, 0)", x.addSum(0, 6, 1, 0), BAD);
        due("addSum(0, 0, 1, 6)", x.addSum(0, 0, 1, 6), BAD);
        due("addSum(0, -1, 1, 0)", x.addSum(0, -1, 1, 0), BAD);
        due("addSum(0, 0, 1, -1)", x.addSum(0, 0, 1, -1), BAD);
        due("addSum(5, 1, 0, 1)", x.addSum(5, 1, 0, 1), BAD);
        due("addSum(0, 1, 5, 1)", x.addSum(0, 1, 5, 1), BAD);
        due("addSum(-1, 1, 0, 1)", x.addSum(-1, 1, 0, 1), BAD);
        due("addSum(0, 1, -1, 1)", x.addSum(0, 1, -1, 1), BAD);
        due("addColumn(2)", x.addColumn(2), 5);
        due("addSum of different levels", x.addSum(0, 1, 5, 1), BAD);
        due("addSum(5, 1, 5, 1)", x.addSum(5, 1, 5, 1), 6);
        due("levels(6)", x.levels(6), 2);
        due("addSum when full", x.addSum(0, 1, 1, 1), FULL);
        due("wrong addSum when full", x.addSum(0, 1, 7, 1), BAD);
        x = bench("6/5/4");
        x.addSum(0, 5, 0, 5);
        dueText(x, "66/52/44");
    }

    private static void replace() {
        promise = 11;
        ArrayBench x = bench("22/00/01/10/11");
        due("replace(0, 0)", x.replace(0, 0), STATE);
        x.keep(0);
        show(x, "343/132/000/221");
        due("replace(0, 0)", x.replace(0, 0), STATE);
        due("replace(1, 1)", x.replace(1, 1), STATE);
        due("replace(3, 0)", x.replace(3, 0), BAD);
        due("replace(-1, 0)", x.replace(-1, 0), BAD);
        due("replace(1, 2)", x.replace(1, 2), BAD);
        due("replace(1, -1)", x.replace(1, -1), BAD);
        due("replace(1, 0)", x.replace(1, 0), 4);
        dueText(x, "3223/1112/0000/2101");
        due("undo()", x.undo(), 2);
        dueText(x, "343/132/000/221");
        show(x, "4/3/0");
        due("replace(0, 0)", x.replace(0, 0), 2);
        dueText(x, "22/11/00");
        show(x, "2222224/0000003/0000001");
        due("replace beyond 7 columns", x.replace(6, 0), FULL);
        due("wrong column beyond 7 columns", x.replace(7, 0), BAD);
        due("wrong image for it", x.replace(0, 0), STATE);
        x.dropColumn(0);
        due("replace up to 7 columns", x.replace(5, 0), 7);
        dueText(x, "2222222/0000011/0000001");
        x.begin(4);
        x.keep(1);
        show(x, "242/131");
        due("replace by no columns", x.replace(1, 1), 2);
        dueText(x, "22/11");
        show(x, "343");
        due("replace without rows", x.replace(1, 0), 4);
        dueText(x, "3223");
    }

    private static void develop() {
        promise = 12;
        ArrayBench x = bench("333/000/012/021");
        due("develop()", x.develop(), 9);
        dueText(x, "3333/0000/1110/2220/0121/1201/2011/0212/1022/2102");
        x = bench("6/4");
        due("develop() of one row", x.develop(), 6);
        dueText(x, "6/4/5/0/1/2/3");
        x = bench("2/1/1");
        due("develop() of two rows", x.develop(), 4);
        dueText(x, "22/10/00/11/01");
        x = bench("2/0/1/0/1/1/0");
        due("develop() of six rows", x.develop(), 12);
        due("levels(1)", x.levels(1), 6);
        x = bench("2/0/1/0/1/1/0/1");
        due("develop() of seven rows", x.develop(), 14);
        due("columns", x.told(1), 1);
        due("develop() again", x.develop(), 28);
        due("develop() too far", x.develop(), FULL);
        due("develop() up to 36 rows", bench("6/0/1/2/3/4/5").develop(), 36);
        due("develop() beyond 36 rows", bench("6/0/1/2/3/4/5/5").develop(), FULL);
        x = bench("2222222/0000000");
        due("no scheme of one row", x.develop(), STATE);
        x = bench("2222222/0000000/0101010");
        due("equal columns are no scheme", x.develop(), STATE);
        due("different levels are no scheme", bench("23/00").develop(), STATE);
        due("no columns are no scheme", new ArrayBench().develop(), STATE);
        x = new ArrayBench();
        x.begin(3);
        due("rows without columns are no scheme", x.develop(), STATE);
        due("a scheme without rows", bench("33").develop(), STATE);
        due("changes", x.told(7), 1);
        x = bench("22/00/01");
        x.develop();
        dueText(x, "222/000/110/011/101");
        due("the scheme of an array", x.told(4), 1);
        due("develop()", x.develop(), 8);
        dueText(x, "2224/0000/1110/1101/0011/0112/1002/1013/0103");
        sevenColumnSchemes();
    }

    /** A scheme has at most as many columns as rows, so one with seven columns gets no column more. */
    private static void sevenColumnSchemes() {
        ArrayBench x = bench("2222222/0000000/1010101/0110011/1100110/0001111/1011010/0111100/1101001");
        due("told(4)", x.told(4), 1);
        due("develop() of seven columns and eight rows", x.develop(), 16);
        due("columns", x.told(1), 7);
        x = bench("333333/000000/001122/010212/012021/021201/022110");
        due("told(4)", x.told(4), 1);
        due("develop() of six columns and six rows", x.develop(), 18);
        due("columns", x.told(1), 7);
        due("levels(6)", x.levels(6), 6);
        due("strength", x.told(2), 2);
    }

    private static void undo() {
        promise = 13;
        ArrayBench x = new ArrayBench();
        for (int n = 1; n <= 10; n++) {
            x.begin(n);
            due("changes", x.told(7), Math.min(n, 8));
        }
        for (int n = 9; n >= 2; n--) {
            due("undo()", x.undo(), n - 2);
            due("rows", x.told(0), n);
        }
        due("undo()", x.undo(), STATE);
        due("rows", x.told(0), 2);
        x.addColumn(3);
        due("undo()", x.undo(), 0);
        due("columns", x.told(1), 0);
        x = bench("23/01/12");
        type(x, "4/3");
        x.keep(0);
        x.put(0, 1, 2);
        x.undo();
        dueText(x, "23/01/12");
        due("the text stays", x.told(8), 3);
        x.undo();
        due("the image stays", x.back(0), 2);
        dueText(x, "23/01/12");
    }

    private static void undoesEveryChange() {
        String scheme = "22/00/01/11/10";
        for (int change = 0; change < 15; change++) {
            ArrayBench x = bench("3/0/2");
            x.keep(0);
            show(x, scheme);
            change(x, change);
            due("changes after change " + change, x.told(7), 3);
            due("undo of change " + change, x.undo(), 2);
            dueText(x, scheme);
            x.undo();
            dueText(x, "3/0/2");
        }
    }

    private static void change(ArrayBench x, int change) {
        switch (change) {
            case 0 -> due("begin", x.begin(6), 4);
            case 1 -> due("addColumn", x.addColumn(2), 2);
            case 2 -> due("dropColumn", x.dropColumn(0), 1);
            case 3 -> due("put", x.put(0, 0, 1), 0);
            case 4 -> due("dropRow", x.dropRow(1), 3);
            case 5 -> due("dropCopies", x.dropCopies(), 0);
            case 6 -> due("sort", x.sort(), 1);
            case 7 -> due("factorial", x.factorial(34), 12);
            case 8 -> due("addSum", x.addSum(0, 1, 1, 1), 2);
            case 9 -> due("replace", x.replace(1, 0), 2);
            case 10 -> due("develop", x.develop(), 8);
            case 11 -> due("load", x.load(), 4);
            case 12 -> due("extend", x.extend(2), 2);
            case 13 -> due("back", x.back(0), 2);
            default -> due("begin", x.begin(0), 4);
        }
    }

    private static void write() {
        promise = 14;
        ArrayBench x = new ArrayBench();
        due("write(31)", x.write(31), BAD);
        due("write(127)", x.write(127), BAD);
        due("write(-1)", x.write(-1), BAD);
        due("write(32)", x.write(32), 1);
        due("write(126)", x.write(126), 2);
        for (int n = 3; n <= 300; n++) {
            due("write(50)", x.write(50), n);
        }
        due("write(50) when full", x.write(50), FULL);
        due("write(31) when full", x.write(31), BAD);
        due("told(8)", x.told(8), 300);
        due("no change", x.told(7), 0);
        due("wipe()", x.wipe(), 300);
    }

    private static void wipe() {
        promise = 15;
        ArrayBench x = bench("23/01");
        due("wipe()", x.wipe(), 5);
        due("told(8)", x.told(8), 0);
        due("wipe()", x.wipe(), 0);
        due("write(50)", x.write(50), 1);
        due("fault()", x.fault(), NONE);
        due("no change", x.told(7), 1);
        dueText(x, "23/01");
    }

    private static void fault() {
        promise = 16;
        Object[][] faults = {{"", 0}, {"2", NONE}, {"/", 0}, {"1", 0}, {"7", 0}, {" ", 0}, {"6543222", NONE},
            {"21", 1}, {"27", 1}, {"65432222", 7}, {"6543222/", 8}, {"23/", 3}, {"23/0", 4}, {"23/02", NONE},
            {"23/03", 4}, {"23/2", 3}, {"23/ 0", 3}, {"23/020", 5}, {"23/02 ", 5}, {"23/02/", 6}, {"23/02//", 6},
            {"23/02/1", 7}, {"23/02/12", NONE}, {"23//", 3}, {"2/0/1/2", 6}, {"23/02a", 5}, {"0", 0}, {"2 ", 1},
            {"6/6", 2}, {"6/5", NONE}, {"6/:", 2}, {"23/0/", 4}, {"~", 0}, {"2.", 1}, {"2/.", 2}};
        for (Object[] fault : faults) {
            ArrayBench x = new ArrayBench();
            type(x, (String) fault[0]);
            due("fault() of " + fault[0], x.fault(), (Integer) fault[1]);
            due("fault() again", x.fault(), (Integer) fault[1]);
        }
        ArrayBench x = new ArrayBench();
        type(x, "6" + "/5".repeat(36));
        due("fault() of 36 rows", x.fault(), NONE);
        x.write('5');
        due("fault() behind 36 rows", x.fault(), 73);
        type(x, "6" + "/5".repeat(36) + "/");
        due("fault() of a 37th slash", x.fault(), 73);
        type(x, "2222222" + "/0101010".repeat(36));
        due("fault() of the longest text", x.fault(), NONE);
        due("told(8)", x.told(8), 295);
    }

    private static void load() {
        promise = 17;
        ArrayBench x = bench("2345623/0123412/1234502");
        due("told(7)", x.told(7), 1);
        dueText(x, "2345623/0123412/1234502");
        due("the text stays", x.told(8), 23);
        due("load()", x.load(), 2);
        due("told(7)", x.told(7), 2);
        x.write('/');
        due("load() with a fault", x.load(), STATE);
        due("told(7)", x.told(7), 2);
        x.wipe();
        due("load() of nothing", x.load(), STATE);
        type(x, "34");
        due("load() without rows", x.load(), 0);
        dueText(x, "34");
        type(x, "2222222" + "/0101011".repeat(36));
        due("load()", x.load(), 36);
        due("cell(35, 6)", x.cell(35, 6), 1);
        due("cell(35, 4)", x.cell(35, 4), 0);
        due("told(3)", x.told(3), 35);
    }

    private static void told() {
        promise = 18;
        ArrayBench x = bench("2223/0000/0111/1012/1100/0000");
        due("told(-1)", x.told(-1), BAD);
        due("told(9)", x.told(9), BAD);
        due("rows", x.told(0), 5);
        due("columns", x.told(1), 4);
        due("strength", x.told(2), 0);
        due("copies", x.told(3), 1);
        due("changes", x.told(7), 1);
        due("bytes", x.told(8), 29);
        due("strength 1", bench("22/00/11").told(2), 1);
        due("strength 2", bench("222/000/011/101/110").told(2), 2);
        due("strength 3", bench("222/000/001/010/011/100/101/110/111").told(2), 3);
        due("strength 2 without two in one set", bench("222/000/001/110/111").told(2), 1);
        due("strength without rows", bench("2222222").told(2), 7);
        due("strength of one row", bench("2/0").told(2), 0);
        due("scheme", bench("22/00/01").told(4), 1);
        due("scheme of one column", bench("5/3").told(4), 1);
        due("no scheme", bench("22/00/11").told(4), 0);
        due("no scheme in the second pair", bench("222/000/010").told(4), 0);
        due("no scheme of different levels", bench("23").told(4), 0);
        due("scheme with descending differences", bench("33/00/10/20").told(4), 1);
        due("scheme without rows", bench("33").told(4), 1);
        due("no scheme without columns", new ArrayBench().told(4), 0);
        x.begin(4);
        due("copies without columns", x.told(3), 3);
        due("no scheme without columns", x.told(4), 0);
    }

    private static void toldBounds() {
        Object[][] bounds = {{"2", 2, 1}, {"22", 3, 4}, {"23", 4, 6}, {"46", 9, 24}, {"6666666", 36, 36},
            {"2222222", 8, 4}, {"2345", 11, 120}, {"46456", 21, 720}, {"445566", 25, 3600}, {"55", 9, 25},
            {"3344", 11, 144}, {"26", 7, 12}};
        for (Object[] bound : bounds) {
            ArrayBench x = bench((String) bound[0]);
            due("told(5) of " + bound[0], x.told(5), (Integer) bound[1]);
            due("told(6) of " + bound[0], x.told(6), (Integer) bound[2]);
        }
    }

    private static void levels() {
        promise = 19;
        ArrayBench x = bench("26345");
        int[] due = {2, 6, 3, 4, 5};
        for (int c = 0; c < 5; c++) {
            due("levels(" + c + ")", x.levels(c), due[c]);
        }
        due("levels(5)", x.levels(5), BAD);
        due("levels(-1)", x.levels(-1), BAD);
        x.dropColumn(0);
        due("levels(4)", x.levels(4), BAD);
        due("levels(0)", x.levels(0), 6);
    }

    private static void cell() {
        promise = 20;
        ArrayBench x = bench("36/05/24");
        due("cell(0, 1)", x.cell(0, 1), 5);
        due("cell(1, 0)", x.cell(1, 0), 2);
        due("cell(1, 1)", x.cell(1, 1), 4);
        due("cell(2, 0)", x.cell(2, 0), BAD);
        due("cell(0, 2)", x.cell(0, 2), BAD);
        due("cell(-1, 0)", x.cell(-1, 0), BAD);
        due("cell(0, -1)", x.cell(0, -1), BAD);
        x.dropRow(1);
        due("cell(1, 0)", x.cell(1, 0), BAD);
    }

    private static void count() {
        promise = 21;
        ArrayBench x = bench("234/013/013/120/000");
        due("count(0, 0)", x.count(0, 0), 4);
        due("count(0, 1)", x.count(0, 1), BAD);
        due("count(1, 0)", x.count(1, 0), 3);
        due("count(1, 1)", x.count(1, 1), 1);
        due("count(2, 2)", x.count(2, 2), 1);
        due("count(3, 1)", x.count(3, 1), 2);
        due("count(3, 5)", x.count(3, 5), 1);
        due("count(3, 6)", x.count(3, 6), BAD);
        due("count(5, 3)", x.count(5, 3), 2);
        due("count(5, 4)", x.count(5, 4), 1);
        due("count(6, 7)", x.count(6, 7), 2);
        due("count(7, 7)", x.count(7, 7), 2);
        due("count(7, 20)", x.count(7, 20), 1);
        due("count(7, 23)", x.count(7, 23), 0);
        due("count(7, 24)", x.count(7, 24), BAD);
        due("count(8, 0)", x.count(8, 0), BAD);
        due("count(-1, 0)", x.count(-1, 0), BAD);
        due("count(1, -1)", x.count(1, -1), BAD);
        x = bench("6666666/5555555");
        due("the last tuple", x.count(127, 279935), 1);
        due("beyond the last tuple", x.count(127, 279936), BAD);
        due("count(128, 0)", x.count(128, 0), BAD);
        due("count of nothing", new ArrayBench().count(0, 0), 0);
    }

    private static void audit() {
        promise = 22;
        ArrayBench x = bench("223/000/001/110/112");
        int[][] due = {{0, NONE, 4, 4}, {1, 4, 2, 1}, {3, 3, 2, 0}, {1, 7, 1, 0}};
        for (int t = 0; t < 4; t++) {
            for (int what = 0; what < 4; what++) {
                due("audit(" + t + ", " + what + ")", x.audit(t, what), due[t][what]);
            }
        }
        due("audit(4, 0)", x.audit(4, 0), BAD);
        due("audit(-1, 0)", x.audit(-1, 0), BAD);
        due("audit(0, 4)", x.audit(0, 4), BAD);
        due("audit(0, -1)", x.audit(0, -1), BAD);
        x = bench("66666/00000/00000/12345/00001");
        due("many tuples", x.audit(5, 2), 2);
        due("many tuples", x.audit(4, 2), 3);
        due("many tuples", x.audit(4, 3), 0);
        x = bench("222");
        due("without rows", x.audit(3, 0), 0);
        due("without rows", x.audit(3, 1), NONE);
        due("without rows", x.audit(3, 2), 0);
        due("without rows", x.audit(0, 3), 0);
        x = new ArrayBench();
        x.begin(7);
        due("without columns", x.audit(0, 2), 7);
        due("without columns", x.audit(1, 0), BAD);
    }

    private static void agreement() {
        promise = 23;
        ArrayBench x = bench("333/012/010/120");
        due("agreement(0, 1)", x.agreement(0, 1), 2);
        due("agreement(1, 0)", x.agreement(1, 0), 2);
        due("agreement(1, 2)", x.agreement(1, 2), 1);
        due("agreement(0, 2)", x.agreement(0, 2), 0);
        due("agreement(2, 2)", x.agreement(2, 2), 3);
        due("agreement(0, 3)", x.agreement(0, 3), BAD);
        due("agreement(3, 0)", x.agreement(3, 0), BAD);
        due("agreement(-1, 0)", x.agreement(-1, 0), BAD);
        due("agreement(0, -1)", x.agreement(0, -1), BAD);
    }

    private static void pairs() {
        promise = 24;
        ArrayBench x = bench("333/012/010/120/012");
        int[] due = {2, 1, 2, 1, 0, 0, 0, 0};
        for (int many = 0; many < 8; many++) {
            due("pairs(" + many + ")", x.pairs(many), due[many]);
        }
        due("pairs(8)", x.pairs(8), BAD);
        due("pairs(-1)", x.pairs(-1), BAD);
        due("pairs(7)", bench("2222222/0000000/0000000").pairs(7), 1);
        x.begin(36);
        due("pairs(0) without columns", x.pairs(0), 630);
        x.begin(1);
        due("pairs(0) of one row", x.pairs(0), 0);
    }

    private static void extension() {
        promise = 25;
        ArrayBench x = bench("22/00/01/10/11");
        int[] due = {0, 1, 1, 0};
        for (int r = 0; r < 4; r++) {
            due("extension(2, " + r + ")", x.extension(2, r), due[r]);
        }
        due("extension(2, -1)", x.extension(2, -1), 4);
        due("extension(3, -1)", x.extension(3, -1), NONE);
        due("extension(3, 0)", x.extension(3, 0), NONE);
        due("extension(1, 0)", x.extension(1, 0), BAD);
        due("extension(7, 0)", x.extension(7, 0), BAD);
        due("extension(2, 4)", x.extension(2, 4), BAD);
        due("extension(2, -2)", x.extension(2, -2), BAD);
        due("no change", x.told(7), 1);
        x.put(0, 0, 1);
        due("extension after a change", x.extension(2, -1), NONE);
        x.undo();
        due("extension after undo", x.extension(2, 2), 1);
        x.begin(6);
        for (int r = 0; r < 6; r++) {
            due("extension(6, " + r + ")", x.extension(6, r), r);
            due("extension(3, " + r + ")", x.extension(3, r), r / 2);
        }
        x.addColumn(2);
        due("extension beside an uneven column", x.extension(3, -1), NONE);
        x.begin(16);
        due("extension(4, 15)", x.extension(4, 15), 3);
        due("extension(5, -1)", x.extension(5, -1), NONE);
        x.begin(17);
        due("extension(2, -1) of 17 rows", x.extension(2, -1), STATE);
        due("extension(2, 17) of 17 rows", x.extension(2, 17), BAD);
        x.begin(0);
        due("extension(2, -1) of no rows", x.extension(2, -1), STATE);
        due("extension(2, 0) of no rows", x.extension(2, 0), BAD);
        x = bench("222/000/000/011/011/101/101/110/110");
        int[] next = {0, 1, 0, 1, 0, 1, 0, 1};
        for (int r = 0; r < 8; r++) {
            due("extension(2, " + r + ")", x.extension(2, r), next[r]);
        }
        due("extension(4, -1) without opposite rows", x.extension(4, -1), NONE);
        latinSquare();
    }

    private static void latinSquare() {
        ArrayBench x = new ArrayBench();
        x.factorial(44);
        x.addSum(0, 1, 1, 1);
        due("the cyclic square of order 4 has no partner", x.extension(4, -1), NONE);
        x.dropColumn(2);
        int[] due = {0, 1, 2, 3, 1, 0, 3, 2, 2, 3, 0, 1, 3, 2, 1, 0};
        for (int r = 0; r < 16; r++) {
            due("square " + r, x.extension(4, r), due[r]);
        }
    }

    private static void extend() {
        promise = 26;
        ArrayBench x = bench("33/00/01/02/10/11/12/20/21/22");
        due("extend(3)", x.extend(3), 2);
        due("extend(3)", x.extend(3), 3);
        dueText(x, "3333/0000/0111/0222/1012/1120/1201/2021/2102/2210");
        due("strength", x.told(2), 2);
        due("changes", x.told(7), 3);
        due("extend(3)", x.extend(3), NONE);
        due("changes", x.told(7), 3);
        due("extend(1)", x.extend(1), BAD);
        due("extend(7)", x.extend(7), BAD);
        due("undo()", x.undo(), 2);
        due("extend(2)", x.extend(2), NONE);
        x = bench("2222222/0000000");
        due("extend(2) when full", x.extend(2), FULL);
        due("extend(7) when full", x.extend(7), BAD);
        x = bench("2222222");
        due("extend(2) when full without rows", x.extend(2), STATE);
        x.begin(17);
        due("extend(2) of 17 rows", x.extend(2), STATE);
        x.begin(0);
        due("extend(2) of no rows", x.extend(2), STATE);
        x.begin(5);
        due("extend(2) of 5 rows", x.extend(2), NONE);
        due("extend(5) of 5 rows", x.extend(5), 0);
        dueText(x, "5/0/1/2/3/4");
    }

    private static void spare() {
        promise = 27;
        ArrayBench x = bench("2/0/0/1/1/0/1");
        due("spare(1)", x.spare(1), 15);
        x = bench("22/00/01/00/10/11/01/11/10");
        due("spare(2)", x.spare(2), 0b11011);
        due("spare(1)", x.spare(1), 0b01011111);
        due("spare(3)", x.spare(3), BAD);
        due("spare(0)", x.spare(0), BAD);
        due("spare(-1)", x.spare(-1), BAD);
        due("no change", x.told(7), 1);
        x.dropRow(0);
        due("spare(1) without the strength", x.spare(1), NONE);
        due("spare(1) of nothing to spare", bench("22/00/11").spare(1), 0);
        due("spare(1) without the strength", bench("2/0/0/1").spare(1), NONE);
        due("spare(1) of one row", bench("2/0").spare(1), NONE);
        due("spare(1) without rows", bench("2").spare(1), STATE);
        due("spare(2) without rows", bench("2").spare(2), BAD);
        due("spare(1) of 13 rows", bench("2/0/1/0/1/0/1/0/1/0/1/0/1/0").spare(1), STATE);
        due("spare(1) of 12 rows", bench("2/0/1/0/1/0/1/0/1/0/1/0/1").spare(1), 1023);
        due("spare(1) of three levels", bench("3/0/1/2/0/1/2").spare(1), 7);
        due("spare(1) of a half", bench("222/000/111/011/100").spare(1), 3);
        due("spare(1) of no half", bench("222/000/011/101/110").spare(1), 0);
        ArrayBench y = new ArrayBench();
        y.begin(3);
        due("spare(1) without columns", y.spare(1), BAD);
    }

    private static void keep() {
        promise = 28;
        ArrayBench x = bench("23/01/12");
        due("keep(0)", x.keep(0), 2);
        due("keep(1)", x.keep(1), 2);
        due("keep(2)", x.keep(2), BAD);
        due("keep(-1)", x.keep(-1), BAD);
        due("no change", x.told(7), 1);
        x.put(0, 0, 1);
        x.dropColumn(1);
        due("keep(0)", x.keep(0), 2);
        x.back(1);
        dueText(x, "23/01/12");
        x.back(0);
        dueText(x, "2/1/1");
        x.begin(0);
        due("keep(0) of nothing", x.keep(0), 0);
        due("back(0)", x.back(0), 0);
        due("columns", x.told(1), 0);
    }

    private static void back() {
        promise = 29;
        ArrayBench x = bench("23/01/12/00");
        due("back(0)", x.back(0), STATE);
        due("back(2)", x.back(2), BAD);
        due("back(-1)", x.back(-1), BAD);
        due("no change", x.told(7), 1);
        x.keep(0);
        x.begin(1);
        due("back(1)", x.back(1), STATE);
        due("back(0)", x.back(0), 3);
        dueText(x, "23/01/12/00");
        due("changes", x.told(7), 3);
        x.put(0, 0, 1);
        due("the image stays", x.back(0), 3);
        dueText(x, "23/01/12/00");
        x.undo();
        dueText(x, "23/11/12/00");
    }

    private static void isIsomorphic() {
        promise = 30;
        ArrayBench x = bench("23/00/01/12");
        due("isIsomorphic(0)", x.isIsomorphic(0), STATE);
        due("isIsomorphic(2)", x.isIsomorphic(2), BAD);
        due("isIsomorphic(-1)", x.isIsomorphic(-1), BAD);
        x.keep(0);
        due("the same", x.isIsomorphic(0), 1);
        show(x, "32/21/00/11");
        due("mixed", x.isIsomorphic(0), 1);
        due("isIsomorphic(1)", x.isIsomorphic(1), STATE);
        show(x, "32/21/00/10");
        due("mixed otherwise", x.isIsomorphic(0), 1);
        show(x, "32/20/00/11");
        due("mixed otherwise", x.isIsomorphic(0), 1);
        show(x, "32/21/01/11");
        due("another one", x.isIsomorphic(0), 0);
        show(x, "23/00/01");
        due("fewer rows", x.isIsomorphic(0), 0);
        show(x, "2/0/0/1");
        due("fewer columns", x.isIsomorphic(0), 0);
        show(x, "33/00/01/12");
        due("other levels", x.isIsomorphic(0), 0);
        show(x, "25/00/01/12");
        due("a column with 5 levels", x.isIsomorphic(0), STATE);
        x.keep(1);
        show(x, "24/00/01/12");
        due("an image with 5 levels", x.isIsomorphic(1), 0);
        x.begin(19);
        due("19 rows", x.isIsomorphic(0), STATE);
        x.begin(18);
        x.keep(0);
        due("18 rows without columns", x.isIsomorphic(0), 1);
        x.begin(17);
        due("17 rows without columns", x.isIsomorphic(0), 0);
        largeImages();
        copiesAndStructures();
    }

    /** Only the array's own rows and levels are limited, not those of the image. */
    private static void largeImages() {
        ArrayBench x = bench("4444446/0000005/0000005");
        x.keep(0);
        show(x, "4444444/0000003/0000003");
        due("an image with 6 levels", x.isIsomorphic(0), 0);
        due("the list of none", x.mapped(0, 6, 3), NONE);
        x.factorial(66);
        x.keep(1);
        show(x, "44/33/33");
        due("an image with 36 rows", x.isIsomorphic(1), 0);
        x.begin(18);
        due("an image with columns", x.isIsomorphic(1), 0);
    }

    private static void copiesAndStructures() {
        ArrayBench x = bench("22/00/00/01/10/11/11");
        x.keep(0);
        show(x, "22/01/00/00/11/10/11");
        due("copies in the same way", x.isIsomorphic(0), 1);
        show(x, "22/00/00/01/01/10/11");
        due("copies in another way", x.isIsomorphic(0), 0);
        x = new ArrayBench();
        x.factorial(44);
        x.addSum(0, 1, 1, 1);
        x.keep(0);
        show(x, "444/000/011/022/033/101/110/123/132/202/213/220/231/303/312/321/330");
        due("the two Latin squares of order 4", x.isIsomorphic(0), 0);
        due("the list of none", x.mapped(0, 0, 0), NONE);
        x.keep(1);
        due("after keep", x.isIsomorphic(1), 1);
        x.keep(0);
        due("after keep in the other image", x.isIsomorphic(0), 1);
        // A cycle of six levels against one of four and a pair: all counts of levels and pairs are alike.
        x = bench("33/00/01/11/12/22/20");
        x.keep(0);
        show(x, "33/00/01/11/10/22/22");
        due("a cycle against two", x.isIsomorphic(0), 0);
        starsAndCycles();
    }

    /** Many columns and levels that can be exchanged, beside two that cannot. */
    private static void starsAndCycles() {
        String[] cycle = {"00", "01", "11", "12", "22", "20"};
        String[] cycles = {"00", "01", "11", "10", "22", "22"};
        StringBuilder one = new StringBuilder("4444444");
        StringBuilder two = new StringBuilder("4444444");
        for (int r = 0; r < 6; r++) {
            one.append("/00000").append(cycle[r]);
            two.append("/00000").append(cycles[r]);
        }
        String[] star = {"10000", "20000", "30000", "01000", "02000", "03000", "00100", "00200", "00300", "00010",
            "00020", "00030"};
        for (String row : star) {
            one.append('/').append(row).append("33");
            two.append('/').append(row).append("33");
        }
        ArrayBench x = bench(one.toString());
        x.keep(0);
        due("a cycle beside stars", x.isIsomorphic(0), 1);
        x = bench(two.toString());
        x.keep(0);
        x.begin(0);
        show(x, one.toString());
        due("a cycle against two beside stars", x.isIsomorphic(0), 0);
    }

    private static void mapped() {
        promise = 31;
        ArrayBench x = bench("23/00/01/12");
        due("mapped(0, 0, 0)", x.mapped(0, 0, 0), STATE);
        x.keep(0);
        due("mapped(2, 0, 0)", x.mapped(2, 0, 0), BAD);
        due("mapped(-1, 0, 0)", x.mapped(-1, 0, 0), BAD);
        due("mapped(0, 2, 0)", x.mapped(0, 2, 0), BAD);
        due("mapped(0, -1, 0)", x.mapped(0, -1, 0), BAD);
        due("mapped(0, 0, 2)", x.mapped(0, 0, 2), BAD);
        due("mapped(0, 1, 3)", x.mapped(0, 1, 3), BAD);
        due("mapped(0, 0, -2)", x.mapped(0, 0, -2), BAD);
        due("mapped(1, 0, 0)", x.mapped(1, 0, 0), STATE);
        dueList(x, 0, "0011012");
        show(x, "32/21/00/11");
        dueList(x, 0, "1201010");
        show(x, "32/21/01/11");
        due("mapped(0, 0, 0) of none", x.mapped(0, 0, 0), NONE);
        due("mapped(0, 0, -1) of none", x.mapped(0, 0, -1), NONE);
        due("mapped(0, 1, 2) of none", x.mapped(0, 1, 2), BAD);
        show(x, "25/00/01/12");
        due("a column with 5 levels", x.mapped(0, 0, 0), STATE);
        due("level 5 of 5", x.mapped(0, 1, 5), BAD);
        x.begin(19);
        x.addColumn(2);
        due("19 rows", x.mapped(0, 0, 0), STATE);
        x.begin(1);
        due("no columns", x.mapped(0, 0, 0), BAD);
        smallestLists();
    }

    private static void smallestLists() {
        ArrayBench x = bench("444");
        x.keep(0);
        dueList(x, 0, "001231012320123");
        // The image has the single level 1 in its last column, the array the level 3 in its first.
        x = bench("444/000/001");
        x.keep(0);
        show(x, "444/300/000");
        dueList(x, 0, "202310012310123");
        // Columns that part the rows alike; the smallest list maps them in their order.
        x = bench("22/01/10");
        x.keep(1);
        show(x, "22/00/11");
        dueList(x, 1, "001110");
        x.factorial(222);
        x.keep(0);
        dueList(x, 0, "001101201");
        x.put(0, 0, 1);
        x.dropRow(7);
        x.keep(1);
        x.undo();
        x.undo();
        due("not any more", x.isIsomorphic(1), 0);
        due("still", x.isIsomorphic(0), 1);
    }

    private static void extremes() {
        promise = 0;
        ArrayBench x = bench("234/000/111/121/023");
        x.keep(0);
        for (int e : EXTREMES) {
            due("begin", x.begin(e), BAD);
            due("addColumn", x.addColumn(e), BAD);
            due("dropColumn", x.dropColumn(e), BAD);
            due("put", x.put(e, 0, 0), BAD);
            due("put", x.put(0, e, 0), BAD);
            due("put", x.put(0, 0, e), BAD);
            due("dropRow", x.dropRow(e), BAD);
            due("factorial", x.factorial(e), BAD);
            due("addSum", x.addSum(e, 1, 0, 1), BAD);
            due("addSum", x.addSum(0, e, 0, 1), BAD);
            due("addSum", x.addSum(0, 1, e, 1), BAD);
            due("addSum", x.addSum(0, 1, 0, e), BAD);
            due("replace", x.replace(e, 0), BAD);
            due("replace", x.replace(0, e), BAD);
            due("write", x.write(e), BAD);
            due("told", x.told(e), BAD);
            due("levels", x.levels(e), BAD);
            due("cell", x.cell(e, 0), BAD);
            due("cell", x.cell(0, e), BAD);
            due("count", x.count(e, 0), BAD);
            due("count", x.count(0, e), BAD);
            due("audit", x.audit(e, 0), BAD);
            due("audit", x.audit(0, e), BAD);
            due("agreement", x.agreement(e, 0), BAD);
            due("agreement", x.agreement(0, e), BAD);
            due("pairs", x.pairs(e), BAD);
            due("extension", x.extension(e, -1), BAD);
            due("extension", x.extension(2, e), BAD);
            due("extend", x.extend(e), BAD);
            due("spare", x.spare(e), BAD);
            due("keep", x.keep(e), BAD);
            due("back", x.back(e), BAD);
            due("isIsomorphic", x.isIsomorphic(e), BAD);
            due("mapped", x.mapped(e, 0, 0), BAD);
            due("mapped", x.mapped(0, e, 0), BAD);
            due("mapped", x.mapped(0, 0, e), BAD);
        }
        dueText(x, "234/000/111/121/023");
        due("changes", x.told(7), 1);
    }
}
