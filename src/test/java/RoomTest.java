import java.lang.management.ManagementFactory;

/** What is made: little by a new object, nothing by any call, so that long runs fit into one room; and no call ever throws. */
public final class RoomTest {
    private static final int[] ODD = {Integer.MIN_VALUE, -9, -1, 0, 1, 2, 3, 4, 7, 8, 9, 10, 20, 40, 60, 255, Integer.MAX_VALUE};
    private static final long[] ROWS = {Long.MIN_VALUE, -1, 0, 100, 999, 200100, 200200200, 200200200200L, Long.MAX_VALUE};

    private static final com.sun.management.ThreadMXBean THREADS =
        (com.sun.management.ThreadMXBean) ManagementFactory.getThreadMXBean();

    private static long made() {
        return THREADS.getCurrentThreadAllocatedBytes();
    }

    public static void main(String[] args) {
        String[] texts = {"N8031e01e12e23e34e45e56e67e70e02e13", "N2014e01", "N5032e01e12e23e34e40", "N3011e01", "N9", ""};
        DarkPlace[] objects = new DarkPlace[texts.length];
        // Loading the classes is not the program's doing.
        new DarkPlace();
        made();
        long before = made();
        for (int i = 0; i < texts.length; i++) {
            objects[i] = new DarkPlace();
        }
        long byObjects = made() - before;
        before = made();
        long sum = 0;
        for (int i = 0; i < texts.length; i++) {
            for (int turn = 0; turn < 3; turn++) {
                objects[i].wipe();
                for (int at = 0; at < texts[i].length(); at++) {
                    sum += objects[i].write(texts[i].charAt(at));
                }
                sum += objects[i].net() + everyCall(objects[i]);
            }
        }
        long byCalls = made() - before;
        System.out.println(byObjects / texts.length + " bytes an object, " + byCalls + " bytes by all calls (" + sum + ")");
        // A row of 14 acts and two slots take some 60 small objects; 4 KiB is ample for them.
        if (byObjects > 4096L * texts.length || byCalls > 4096) {
            System.out.println("too much is made");
            System.exit(1);
        }
    }

    private static long everyCall(DarkPlace x) {
        long sum = 0;
        for (int one : ODD) {
            sum += x.write(one) + x.fault() + x.ask(one) + x.count(one) + x.drawn(one) + x.keep(one) + x.again(one);
            sum += x.hide(one) + x.join() + x.round() + x.which() + x.seed(one) + x.share(one, true) + x.share(one, false);
            for (int other : ODD) {
                sum += x.edge(one, other) + x.searcher(one, other) + x.step(one, other) + x.fate(one, other);
                sum += x.see(one, other) + x.luck(one, other, true) + x.luck(one, other, false);
            }
            for (long row : ROWS) {
                sum += x.judge(one, row);
            }
            sum += x.which() + x.undo() + x.unsee() + x.net();
        }
        return sum;
    }
}
