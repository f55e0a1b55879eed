import java.lang.management.ManagementFactory;

/** The room of LANGUAGE.md and of the project: an object makes its rows once, and no call makes more. */
public final class RoomTest {
    /** With those that type the text they are nearly the 512 for which an object is used. */
    private static final int CALLS = 464;
    private static final long MOST_FOR_CALLS = 16 * 1024;
    private static final long MOST_FOR_OBJECT = 32 * 1024;
    private static final Due due = new Due();

    public static void main(String[] args) {
        // the first round lets the machine load what it needs
        for (int round = 0; round < 2; round++) {
            long before = made();
            TaxiRank rank = new TaxiRank();
            long object = made() - before;
            Due.retype(rank, "w3;w17;c5>4;.1;c5>9;.120;w3;.30;w1;w2");
            before = made();
            callAll(rank);
            long calls = made() - before;
            if (round == 1) {
                System.out.println(object + " bytes for the object, " + calls + " for its calls");
                due.holds("the object is small", object <= MOST_FOR_OBJECT);
                due.holds("calls make nothing", calls <= MOST_FOR_CALLS);
            }
        }
        due.end();
    }

    private static long made() {
        return ((com.sun.management.ThreadMXBean) ManagementFactory.getThreadMXBean())
            .getCurrentThreadAllocatedBytes();
    }

    private static void callAll(TaxiRank rank) {
        for (int i = 0; i < CALLS / 16; i++) {
            rank.come(i * 7);
            rank.arrive(i % 21);
            rank.call(i % 21, i % 17);
            rank.pass(1 + i);
            rank.perform();
            rank.set(i % 5, 30);
            rank.keep();
            rank.restore();
            rank.undo();
            rank.ridesIn(0);
            rank.inLineIn(7);
            rank.ifCalled(3, 4, 0);
            rank.reason(7, 3);
            rank.shares(0);
            rank.rides(3);
            rank.goHome(14);
        }
    }
}
