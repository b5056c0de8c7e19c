import java.lang.management.ManagementFactory;
import java.util.Random;

/** Calls make nothing: all rows are made with the object, and few enough. */
public final class RoomTest {
    private static final com.sun.management.ThreadMXBean BEAN = (com.sun.management.ThreadMXBean) ManagementFactory.getThreadMXBean();
    private static int sum = 0;

    private static long bytes() {
        return BEAN.getThreadAllocatedBytes(Thread.currentThread().getId());
    }

    public static void main(String[] args) {
        Random lot = new Random(5);
        int[] by = new int[4096];
        for (int i = 0; i < by.length; i++) by[i] = lot.nextInt(8) == 0 ? lot.nextInt() : lot.nextInt(100);
        int wrong = 0;
        for (int run = 0; run < 40; run++) {
            bytes();
            long before = bytes();
            MeanSafe x = new MeanSafe();
            long made = bytes() - before;
            x.deal(8);
            before = bytes();
            for (int i = 0; i < 12; i++) everyCall(x, by, (run * 101 + i * 37) % 4000);
            long later = bytes() - before;
            if (run > 0 && (made > 60000 || later > 2000)) {
                wrong++;
                System.out.println("run " + run + ": the object took " + made + " bytes, its calls " + later);
            }
        }
        System.out.println(wrong == 0 ? "room as due (" + (sum == 0 ? "-" : "+") + ")" : wrong + " runs took too much room");
        if (wrong != 0) System.exit(1);
    }

    private static void everyCall(MeanSafe x, int[] r, int i) {
        sum += x.person(r[i], r[i + 1], r[i + 2]) + x.told(r[i], r[i + 1] % 9) + x.as(r[i] % 8, r[i + 3] % 6) + x.turns(r[i] % 8, r[i + 5] % 6);
        sum += x.set(r[i] % 8, r[i + 1] % 7, r[i + 4]) + x.forget() + x.deal(r[i + 2]) + x.seed(r[i + 3]) + x.safe(r[i] % 3, r[i + 4]);
        sum += x.says() + x.tries(r[i]) + x.needs(r[i + 1]) + x.worst(0) + x.had(r[i + 2] % 13) + x.start(r[i + 3] % 8, 0) + x.tells(0);
        sum += x.keeps(r[i + 5] % 8) + x.behind(r[i + 6] % 8, r[i + 7], 0) + x.left(r[i + 3] % 4, 0) + x.fee() + x.fine(r[i] % 8);
        sum += x.trim(0) + x.feed(0x73657420, 0x286c2b68, 0x292f3220) + x.text() + x.textTold(0, 1) + x.why(0);
        sum += x.sheet(r[i] % 4, r[i + 1] % 2, r[i + 2] % 25) + x.mark(r[i] % 4, 0, r[i + 5]) + x.pour(r[i] % 4) + x.reads(r[i] % 4);
        sum += x.copy(r[i] % 4, 0, r[i + 1] % 4, 0, 1) + x.lay(0, 1, 0) + x.ask(0, 0) + x.lay(1, 2, r[i] % 4) + x.item(1, 0) + x.lay(2, 3, 7) + x.rest(2, 3);
        sum += x.keep() + x.tell(3) + x.check(2) + x.back() + x.count(r[i] % 12);
    }
}
