import com.sun.management.ThreadMXBean;
import java.lang.management.ManagementFactory;

/** A run of 512 calls has one room for all that it makes: the dearest calls fit into it. */
public final class RoomTest {
    /** 600,000 objects of 16 bytes, the least that one has here: far below 7.3 million elements, too. */
    private static final long ROOM = 600_000L * 16;
    private static final int CALLS = 512;

    private static final Check CHECK = new Check();

    private final ProcessorHouse house = new ProcessorHouse();
    private int calls;

    public static void main(String[] args) {
        ThreadMXBean bean = (ThreadMXBean) ManagementFactory.getThreadMXBean();
        for (int kind = 0; kind <= 1; kind++) {
            long before = bean.getCurrentThreadAllocatedBytes();
            new RoomTest().pairs(kind);
            CHECK.due("pairs fit into the room", 1, bean.getCurrentThreadAllocatedBytes() - before < ROOM ? 1 : 0);
        }
        long before = bean.getCurrentThreadAllocatedBytes();
        new RoomTest().runsAndSims();
        CHECK.due("runs fit into the room", 1, bean.getCurrentThreadAllocatedBytes() - before < ROOM ? 1 : 0);
        CHECK.done();
    }

    private void word(int program, int op, int d, int a, int b, int n) {
        house.word(program, op, d, a, b, n);
        calls++;
    }

    /** One counts until it sees the flag that the other one sets: as many ends as there are numbers. */
    private void pairs(int kind) {
        int bits = 7 - kind;
        house.machine(bits, 8);
        int counts = house.program(1);
        word(counts, 0, 0, 0, 0, 1);
        word(counts, 1, 1, 1, 0, 0);
        word(counts, 4, 2, 3, 0, 0);
        word(counts, 2, 2, 0, 2, 0);
        word(counts, 6, 0, 2, 0, 1);
        int sets = house.program(1);
        word(sets, 0, 0, 0, 0, 1);
        word(sets, 5, 0, 3, 0, 0);
        calls += 3;
        while (house.count(0) < 60) {
            house.pair(counts, sets, kind);
            calls++;
        }
        for (int k = 0; calls < CALLS; k++, calls++) {
            int pair = 4 + k % 57;
            if (house.explore(pair, 1) != 1 << bits) {
                CHECK.tell("ends of pair " + pair + " of kind " + kind);
            }
        }
    }

    /** Runs and sims without an end, each gone on with for 2000 steps or cycles. */
    private void runsAndSims() {
        house.machine(32, 8);
        house.program(1);
        word(2, 0, 0, 0, 0, 1);
        word(2, 1, 1, 1, 0, 0);
        word(2, 5, 0, 1, 1, 0);
        word(2, 6, 0, 0, 0, 1);
        house.core(1, 8, 8, 8, 8);
        calls += 3;
        while (house.count(0) < 60) {
            house.run(2);
            calls++;
            if (house.count(0) < 60) {
                house.sim(3, 2);
                calls++;
            }
        }
        for (int k = 0; calls < CALLS; k++, calls++) {
            int handle = 4 + k % 56;
            if (k % 3 == 2) {
                house.agrees(5, 4);
            } else if (house.kind(handle) == 3) {
                CHECK.due("steps", 2000, house.step(handle, 2000));
            } else {
                CHECK.due("cycles", 2000, house.cycles(handle, 2000));
            }
        }
    }
}
