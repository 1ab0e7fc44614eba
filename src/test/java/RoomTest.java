import com.sun.management.ThreadMXBean;
import java.lang.management.ManagementFactory;

/** What runs make: as no element takes less than a byte, bytes below the room's elements are few enough. */
public final class RoomTest {
    private static final long ROOM = 7_300_000;
    private static final int CALLS = 512;
    private static final ThreadMXBean BEAN = (ThreadMXBean) ManagementFactory.getThreadMXBean();

    public static void main(String[] args) {
        String text = "table a word,b word,c word,d word;order a up,b down,c up first,d down"
            + ";row a b c d".repeat(30);
        boolean small = true;
        for (int kind = 0; kind < 6; kind++) {
            DriftPages x = Due.of(text);
            long before = BEAN.getThreadAllocatedBytes(Thread.currentThread().getId());
            for (int i = 0; i < CALLS; i++) {
                call(x, kind, i);
            }
            long made = BEAN.getThreadAllocatedBytes(Thread.currentThread().getId()) - before;
            small &= made < ROOM;
            System.out.println("calls of kind " + kind + " make " + made + " bytes");
        }
        if (!small) {
            System.exit(1);
        }
    }

    private static void call(DriftPages x, int kind, int i) {
        switch (kind) {
            case 0:
                x.table(0);
                break;
            case 1:
                x.change(i % 30, 0, 'a' + i % 26);
                break;
            case 2:
                x.page(20, i % 2 == 0);
                break;
            case 3:
                x.turn(i % 4, 4, 8, 12);
                break;
            case 4:
                x.begin(i % 4, 20, true);
                x.on(i % 4);
                break;
            default:
                x.insert('a', 'b', 'c', 'd');
                x.remove(30 + i % 34);
        }
    }
}
