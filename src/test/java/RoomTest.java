import com.sun.management.ThreadMXBean;
import java.lang.management.ManagementFactory;

/** A run's calls make few objects: rows are made once and used again. */
public final class RoomTest {
    private static final int CALLS = 512;
    /** Of 7.3 million elements of 4 bytes in a run, far less than a tenth. */
    private static final long MOST_BYTES = 1 << 20;

    private static final ThreadMXBean THREADS = (ThreadMXBean) ManagementFactory.getThreadMXBean();

    private RoomTest() {
    }

    public static void main(String[] args) {
        // The first measurement has the machine load what it needs itself.
        bytesOfSpaces();
        small("512 calls of space", bytesOfSpaces());
        small("256 calls of make, 256 of collect", bytesOfCollections());
        small("calls that only ask", bytesOfQuestions());
        Check.end();
    }

    private static void small(String what, long bytes) {
        Check.same("room: " + what + " take little", bytes <= MOST_BYTES ? "little" : bytes + " bytes", "little");
    }

    private static long taken() {
        return THREADS.getCurrentThreadAllocatedBytes();
    }

    private static long bytesOfSpaces() {
        long before = taken();
        NurseryRow x = new NurseryRow();
        for (int i = 0; i < CALLS; i++) {
            x.space(i % 2 == 0 ? 1024 : 16, i % 3 == 0 ? 512 : 0, i % 5 == 0 ? 64 : 8192);
        }
        return taken() - before;
    }

    private static long bytesOfCollections() {
        long before = taken();
        NurseryRow x = new NurseryRow();
        for (int i = 0; i < CALLS / 2; i++) {
            x.make(i % 9, i % 7);
            x.collect();
        }
        return taken() - before;
    }

    private static long bytesOfQuestions() {
        long before = taken();
        NurseryRow x = new NurseryRow();
        x.make(1, 1);
        for (int i = 0; i < CALLS / 4 - 1; i++) {
            x.get(1, 0);
            x.word(1, 0);
            x.about(1, i % 4);
            x.next(0);
        }
        return taken() - before;
    }
}
