import java.lang.management.ManagementFactory;

/** What calls make: rows are made once, so a call leaves next to nothing in the one room of a run. */
public final class RoomTest {
    private static final com.sun.management.ThreadMXBean BEAN =
        (com.sun.management.ThreadMXBean) ManagementFactory.getThreadMXBean();
    private static final int CALLS = 512;

    private interface Call {
        void ask(int time);
    }

    public static void main(String[] args) {
        spent("warm up", 1, 10_000_000, time -> new CurvekeyHouse());
        spent("a new object", 1, 200_000, time -> new CurvekeyHouse());
        CurvekeyHouse house = new CurvekeyHouse();
        spent("found", CALLS, 200, time -> house.found(1 + time % 5, time % 6, 2 + time % 7));
        house.found(5, 0, 2);
        spent("bulk", CALLS, 200, time -> house.bulk(40, time % 100));
        spent("design", CALLS, 200, time -> house.design(0, 8, 16, 24 + time % 8));
        CurvekeyHouse other = new CurvekeyHouse();
        other.found(5, 3, 2);
        other.put(0, 0);
        spent("move", CALLS, 200, time -> other.move(0, time % 32, 31 - time / 32));
        spent("best", CALLS, 200, time -> house.best(1 + time % 32, 1 + time % 7, time % 2 == 0));
        spent("search", CALLS, 200, time -> house.search(time % 4, 1, 28, 30, 1));
        spent("proof", CALLS, 200, time -> house.proof(time % 32, 5, time % 80));
        spent("pieces", CALLS, 200, time -> house.pieces(time % 81));
        spent("row", CALLS, 400, time -> house.row(time % 32));
        spent("rivalReads", CALLS, 200, time -> house.rivalReads(0, 0, 32, 32));
        spent("sweep", CALLS, 200, time -> house.sweep());
        spent("digest", CALLS, 400, time -> house.digest());
        Due.end();
    }

    private static void spent(String what, int calls, long mostEach, Call call) {
        for (int time = 0; time < 3; time++) {
            call.ask(time);
        }
        long before = BEAN.getCurrentThreadAllocatedBytes();
        for (int time = 0; time < calls; time++) {
            call.ask(time);
        }
        long each = (BEAN.getCurrentThreadAllocatedBytes() - before) / calls;
        Due.yes(what + " takes " + each + " bytes a call", each <= mostEach);
    }
}
