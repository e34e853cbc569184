import com.sun.management.ThreadMXBean;
import java.lang.management.ManagementFactory;

/** What runs make stays far below the room that all their calls share. */
public final class RoomTest {
    // 7.3 million elements take at least 7.3 million bytes; the whole of a run stays below a tenth.
    private static final long MOST = 730_000;
    private static final ThreadMXBean BEAN = (ThreadMXBean) ManagementFactory.getThreadMXBean();

    public static void main(String[] args) {
        // Once before it is measured: what the machine makes for itself is not counted.
        programs();
        talk();
        long begin = made();
        programs();
        long middle = made();
        talk();
        long end = made();
        Check.holds("programs made " + (middle - begin) + " bytes", middle - begin < MOST);
        Check.holds("writes and meetings made " + (end - middle) + " bytes", end - middle < MOST);
        Check.finish("RoomTest");
    }

    private static long made() {
        return BEAN.getThreadAllocatedBytes(Thread.currentThread().getId());
    }

    /** As many programs as 512 calls can bring, with a write for each. */
    private static void programs() {
        DriftStore x = new DriftStore();
        for (int i = 0; i < 128; i++) {
            // c1:=1+1+1+1+1+1+1+1, padded by a blank
            x.feed(0x63313a3d, 0x312b312b, 0x312b312b, 0x312b312b, 0x312b3120);
            x.program();
            x.write(i % 5, i % 8, 0);
            x.cell(i % 5, 1, false);
        }
        x.writes();
    }

    /** Writes with the longest sums, and a reading that does all of them again after each meeting. */
    private static void talk() {
        DriftStore x = new DriftStore();
        x.feed(0x63313a3d, 0x63312b31, 0x2b312b31, 0x2b312b31, 0x2b312b31);
        for (int i = 0; i < 6; i++) {
            x.feed(0x2b312b31, 0x2b312b31, 0x2b312b31, 0x2b312b31, 0x2b312b31);
        }
        x.program();
        for (int i = 0; i < 320; i++) {
            x.write(i % 5, i % 8, 0);
        }
        for (int i = 0; i < 60; i++) {
            x.meet(i % 5, (i + 1) % 5, 40);
            x.read((i + 1) % 5, i % 8, 1, false);
            x.commit(3);
        }
    }
}
