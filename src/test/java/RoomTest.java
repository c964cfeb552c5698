import java.lang.management.ManagementFactory;

/** All calls of a run live in one room: the calls make no objects, and a new object is small. */
public final class RoomTest {
    static final com.sun.management.ThreadMXBean THREADS = (com.sun.management.ThreadMXBean) ManagementFactory.getThreadMXBean();

    static long bytes() {
        return THREADS.getThreadAllocatedBytes(Thread.currentThread().getId());
    }

    public static void main(String[] args) {
        manyCalls(new CrossedRings());
        long before = bytes();
        CrossedRings x = new CrossedRings();
        long made = bytes() - before;
        before = bytes();
        long sum = manyCalls(x);
        long byCalls = bytes() - before;
        System.out.println("a new object takes " + made + " bytes, calls take " + byCalls + " (" + sum + ")");
        if (made > 20000 || byCalls > 2000) {
            System.out.println("that is too much");
            System.exit(1);
        }
    }

    static long manyCalls(CrossedRings x) {
        long sum = 0;
        x.text(0, 28);
        for (int i = 0; i < 14; i++) {
            sum += x.put(0, 2 * i, i == 0 ? 'g' : i % 3 == 0 ? 't' : i % 3 == 1 ? 'b' : 'w');
            sum += x.put(0, 2 * i + 1, '0' + i % 10);
        }
        sum += x.toy(0);
        x.row(0, 8);
        x.row(1, 14);
        for (int i = 0; i < 14; i++) {
            sum += x.lay(0, i, i % 4);
            sum += x.lay(1, i, 9);
        }
        for (int k = 0; k < 12; k++) {
            sum += x.duel(3) + x.asked() + x.fewest(1, 9, 2) + x.picture(1, 3) + x.which(1) + x.run(0, 4) + x.rounds(0);
            sum += x.kinds(0, 0) + x.colours(0, 0) + x.next(0, 0) + x.odds(0, 0, 3, 5) + x.mid(0, 0, 5);
            sum += x.turn(k % 4) + x.exchange(1, 12) + x.lots(2, 7) + x.undo(k) + x.keep(k % 3) + x.on(k % 3);
            sum += x.digest() + x.mark(0, 4) + x.bead(0, 4) + x.cell(0, 1) + x.shows(0, 0, 9, 9) + x.mean(0);
            sum += x.copy(0, 0, 1, 0, 8) + x.fault(0) + x.count(5) + x.findings(1) + x.tear(5) + x.row(5, 40);
        }
        return sum;
    }
}
