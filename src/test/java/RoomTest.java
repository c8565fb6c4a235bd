import java.lang.management.ManagementFactory;

/** An office makes its rows once: the dearest calls take next to no room, and an office little. */
public final class RoomTest {
    private static final com.sun.management.ThreadMXBean COUNTER =
        (com.sun.management.ThreadMXBean) ManagementFactory.getThreadMXBean();
    private static int wrong = 0;
    private static int kept = 0;

    private static long used() {
        return COUNTER.getThreadAllocatedBytes(Thread.currentThread().getId());
    }

    private static void demand(boolean holds, String what, long bytes) {
        if (!holds) {
            wrong++;
            System.out.println(what + " took " + bytes + " bytes");
        }
    }

    private static RunmergeOffice filled() {
        RunmergeOffice o = new RunmergeOffice();
        o.scatter(0, 50, 999, 1);
        o.scatter(0, 50, 999, 2);
        o.setRuns(0, 0, 1);
        o.setMerge(1, 2);
        String text = "sort0into1;sort0into2;sort0into3;sort0into4;sort0into5;sort0into6;sort0into7;sort0into1;sort0into2;";
        for (int i = 0; i < text.length(); i++) o.type(text.charAt(i));
        return o;
    }

    private static void callAll(RunmergeOffice o) {
        kept += o.errors(0) + o.errorKind() + o.errorPlace() + o.run() + o.sort(0, 1) + o.plan(0, 1) + o.leastMoves(0);
        kept += o.begin(0, 1) + o.work(5) + o.tear() + o.work(200) + o.job(2) + o.combine(1, 1, 2, 1) + o.runAt(0, 3, 0);
    }

    public static void main(String[] args) {
        callAll(filled());
        long before = used();
        RunmergeOffice o = new RunmergeOffice();
        long forOne = used() - before;
        demand(forOne < 60000, "an office", forOne);
        kept += o.records();
        RunmergeOffice f = filled();
        before = used();
        for (int i = 0; i < 30; i++) callAll(f);
        long forCalls = used() - before;
        demand(forCalls < 30000, "420 calls", forCalls);
        System.out.println(wrong == 0 ? "an office takes " + forOne + " bytes, 420 calls " + forCalls : "too much room " + kept);
        if (wrong != 0) System.exit(1);
    }
}
