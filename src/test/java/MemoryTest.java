import java.lang.management.ManagementFactory;

/** All calls of one run live in one room: what does not throw makes no objects after the constructor. */
public final class MemoryTest {
    private static final int ROUNDS = 2000;
    private static final long FEW_BYTES = 64 * 1024;

    public static void main(String[] args) {
        com.sun.management.ThreadMXBean threads =
                (com.sun.management.ThreadMXBean) ManagementFactory.getThreadMXBean();
        long thread = Thread.currentThread().getId();
        BoomerangCourt court = new BoomerangCourt();
        int sum = play(court);
        long before = threads.getThreadAllocatedBytes(thread);
        for (int i = 0; i < ROUNDS; i++) {
            sum += play(court);
        }
        long bytes = threads.getThreadAllocatedBytes(thread) - before;
        System.out.println(bytes + " bytes in " + ROUNDS + " rounds, sum " + sum);
        if (bytes > FEW_BYTES) {
            System.exit(1);
        }
    }

    /** Ends as it begins, so that it can be played again. */
    private static int play(BoomerangCourt court) {
        court.save();
        int sum = court.addParty(1, 0) + court.addParty(2, 2) + court.setTree(5, 5, true) + court.setBench(3, 3);
        sum += court.moveParty(0, 4, 3) + court.setWind(2, 1) + court.buyBoomerangs(2) + court.pass(9);
        sum += court.summon(0, court.bestThrow(0)) ? 1 : 0;
        sum += court.mostHearings() + court.mostHearingsByChains() + court.describePlea(0) + court.describeRow(3);
        sum += court.isConsistent() ? 1 : 0;
        sum += court.hear(0) + court.caughtShareBits() + (int) court.signature();
        String text = "party 77;throw 1#0;wind 33;pass 2;buy 1";
        for (int i = 0; i < text.length(); i++) {
            court.append(text.charAt(i));
        }
        sum += court.run() + court.undo() + court.restore();
        return sum;
    }
}
