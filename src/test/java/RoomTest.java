import com.sun.management.ThreadMXBean;
import java.lang.management.ManagementFactory;

/** All calls of a run live in one room: an object stays small, and its calls make no objects. */
public final class RoomTest {
    private static final int MOST_BYTES_AN_OBJECT = 100_000;
    private static final int MOST_BYTES_OF_CALLS = 10_000;
    private static final ThreadMXBean THREADS = (ThreadMXBean) ManagementFactory.getThreadMXBean();
    private static int answers = 0;

    public static void main(String[] args) {
        useAll(new ArrayBench());
        long start = THREADS.getCurrentThreadAllocatedBytes();
        ArrayBench bench = new ArrayBench();
        long made = THREADS.getCurrentThreadAllocatedBytes();
        useAll(bench);
        long used = THREADS.getCurrentThreadAllocatedBytes();
        System.out.println("an object takes " + (made - start) + " bytes, its calls " + (used - made) + " ("
            + answers + " answers)");
        if (made - start > MOST_BYTES_AN_OBJECT || used - made > MOST_BYTES_OF_CALLS) {
            System.exit(1);
        }
    }

    private static void useAll(ArrayBench x) {
        for (int turn = 0; turn < 8; turn++) {
            answers += x.begin(4) + x.addColumn(2) + x.addColumn(3) + x.dropColumn(1) + x.put(1, 0, 1) + x.dropRow(3);
            answers += x.dropCopies() + x.keep(1) + x.factorial(222) + x.replace(2, 1) + x.addSum(0, 1, 1, 1);
            answers += x.sort() + x.extension(2, 3) + x.extend(2) + x.spare(1) + x.keep(0) + x.isIsomorphic(0);
            answers += x.mapped(0, 1, 1) + x.back(1) + x.undo() + x.audit(2, 2) + x.audit(2, 3) + x.audit(2, 0);
            answers += x.audit(1, 1) + x.count(3, 1) + x.agreement(0, 1) + x.pairs(1) + x.cell(0, 0) + x.levels(0);
            answers += x.wipe() + x.write('3') + x.write('/') + x.write('1') + x.fault() + x.load() + x.develop();
            for (int what = 0; what < 9; what++) {
                answers += x.told(what);
            }
        }
    }
}
