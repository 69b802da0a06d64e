import com.sun.management.ThreadMXBean;
import java.lang.management.ManagementFactory;

/** The room of a run: the constructor makes all rows, and the calls make nothing. */
public final class RoomTest {
    private static final Checks CHECKS = new Checks("RoomTest");
    private static final ThreadMXBean THREADS = (ThreadMXBean) ManagementFactory.getThreadMXBean();
    private static final int OBJECTS = 70;
    /** As many as an object's 512 calls allow. */
    private static final int ROUNDS = 3;
    private static int sum;

    public static void main(String[] args) {
        long before = bytes();
        OrchestraLibrary x = new OrchestraLibrary();
        long made = bytes() - before;
        CHECKS.holds("the constructor takes " + made + " bytes, at most 500000", made <= 500_000);
        // What the machine makes for itself, as it loads classes, is made in the first round.
        work(x);
        OrchestraLibrary[] libraries = new OrchestraLibrary[OBJECTS];
        for (int i = 0; i < OBJECTS; i++) {
            libraries[i] = new OrchestraLibrary();
        }
        before = bytes();
        for (int i = 0; i < OBJECTS * ROUNDS; i++) {
            work(libraries[i / ROUNDS]);
        }
        long more = bytes() - before;
        CHECKS.holds(OBJECTS * ROUNDS + " rounds take " + more + " bytes, at most 20000", more <= 20_000);
        CHECKS.finish();
    }

    private static long bytes() {
        return THREADS.getThreadAllocatedBytes(Thread.currentThread().getId());
    }

    private static void work(OrchestraLibrary x) {
        x.edition(0, 90, 4);
        x.derive(0);
        x.cut(1, 3, 40);
        x.insert(1, 2, 30, 3);
        x.rework(1, 5, 2);
        x.tempo(1, 5, 777);
        x.bow(1, 0, 5, 2);
        x.copyBowings(1, 0, 0, 1);
        x.buy(0, 0, 30);
        x.seat(0, 3);
        x.lendAll(0, 0, 9);
        x.lend(1, 0, 0, 2, 3);
        x.bring(0, 1, 1);
        x.pass(1);
        x.box(0, 0, 8);
        x.put(0, 0, 0, -1);
        x.likeBox(0, 1);
        for (int i = 0; i < 11; i++) {
            sum += x.ofEdition(1, i) + x.bar(1, 3, i) + x.compare(0, 1, i) + x.difference(0, 1, i, i % 4) + x.count(i);
            sum += x.carry(0, 5 + i, 1) + x.loan(0, i) + x.borrower(0, i) + x.stock(0, 0, i) + x.copied(i);
        }
        sum += x.seconds(0, 1, 9) + x.length(0) + x.barAt(0, 20) + x.pace(0) + x.overdue(0) + x.look(0, 0, 0);
        x.append('t');
        x.append('0');
        x.append(':');
        x.append('3');
        x.append('=');
        x.append('0');
        sum += x.read() + x.faultPosition() + x.failed() + x.refusal();
        x.append('x');
        sum += x.read();
        x.save();
        x.undo();
        x.restore();
    }
}
