/** Promises 7 and 8: core, change. */
public final class CoreTest {
    private static final Check CHECK = new Check();
    private static final int[][] WRONG = {{0, 0, 0, 0}, {9, 0, 0, 0}, {-1, 0, 0, 0}, {1, -1, 0, 0}, {1, 9, 0, 0},
        {1, 0, -1, 0}, {1, 0, 9, 0}, {1, 0, 0, -1}, {1, 0, 0, 9}, {Integer.MIN_VALUE, 0, 0, 0},
        {Integer.MAX_VALUE, 0, 0, 0}, {1, Integer.MAX_VALUE, 0, 0}, {1, 0, Integer.MIN_VALUE, 0},
        {1, 0, 0, Integer.MAX_VALUE}};

    public static void main(String[] args) {
        cores();
        changes();
        changeIsSeen();
        CHECK.done();
    }

    private static ProcessorHouse house() {
        ProcessorHouse house = new ProcessorHouse();
        house.machine(8, 4);
        house.program(1);
        house.word(2, 7, 0, 0, 0, 0);
        return house;
    }

    private static void cores() {
        ProcessorHouse house = house();
        CHECK.answers("the least core", 3, () -> house.core(1, 1, 0, 0, 0));
        CHECK.answers("the greatest core", 4, () -> house.core(1, 8, 8, 8, 8));
        CHECK.due("kind(4)", 4, house.kind(4));
        for (int[] w : WRONG) {
            CHECK.thrown(house, IllegalArgumentException.class, "core(1, " + w[0] + ", " + w[1] + ", ..)",
                    () -> house.core(1, w[0], w[1], w[2], w[3]));
            CHECK.refused(house, 2, "core(2, ..)", () -> house.core(2, w[0], w[1], w[2], w[3]));
            CHECK.refused(house, 1, "core(5, ..)", () -> house.core(5, w[0], w[1], w[2], w[3]));
        }
        CHECK.refused(house, 2, "core(3, 1, 0, 0, 0)", () -> house.core(3, 1, 0, 0, 0));
        CHECK.refused(house, 1, "core(0, 1, 0, 0, 0)", () -> house.core(0, 1, 0, 0, 0));
    }

    private static void changes() {
        ProcessorHouse house = house();
        house.core(1, 3, 1, 2, 2);
        CHECK.answers("change(3, 8, ..)", 3, () -> house.change(3, 8, 8, 8, 8));
        CHECK.answers("change(3, 1, ..)", 8, () -> house.change(3, 1, 0, 0, 0));
        for (int[] w : WRONG) {
            CHECK.thrown(house, IllegalArgumentException.class, "change(3, " + w[0] + ", ..)",
                    () -> house.change(3, w[0], w[1], w[2], w[3]));
            CHECK.refused(house, 2, "change(1, ..)", () -> house.change(1, w[0], w[1], w[2], w[3]));
            CHECK.refused(house, 1, "change(4, ..)", () -> house.change(4, w[0], w[1], w[2], w[3]));
        }
        CHECK.answers("what was refused changed nothing", 1, () -> house.change(3, 5, 0, 0, 0));
        house.sim(3, 2);
        CHECK.refused(house, 3, "change(3, ..), used", () -> house.change(3, 2, 0, 0, 0));
        CHECK.refused(house, 3, "change(3, 0, ..), used", () -> house.change(3, 0, 0, 0, 0));
        house.drop(4);
        CHECK.answers("change(3, ..), free", 5, () -> house.change(3, 2, 0, 0, 0));
        house.drop(3);
        CHECK.refused(house, 1, "change(3, ..), dropped", () -> house.change(3, 2, 0, 0, 0));
    }

    /** Cycles of a new sim until its end, by the core as it is then. */
    private static int cyclesOf(ProcessorHouse house, int core, int program) {
        int sim = house.sim(core, program);
        int cycles = house.cycles(sim, 2000);
        house.drop(sim);
        return cycles;
    }

    private static void changeIsSeen() {
        ProcessorHouse house = new ProcessorHouse();
        house.machine(8, 4);
        house.program(1);
        house.word(2, 0, 1, 0, 0, 1);
        house.word(2, 1, 0, 1, 1, 0);
        house.word(2, 4, 2, 3, 3, 0);
        house.word(2, 3, 2, 2, 2, 0);
        house.word(2, 6, 0, 1, 1, 5);
        house.word(2, 7, 0, 0, 0, 0);
        int core = house.core(1, 1, 0, 0, 0);
        // Six words enter in cycles 1 to 6, the last one leaves a cycle later.
        CHECK.due("all least", 7, cyclesOf(house, core, 2));
        house.change(core, 8, 0, 0, 0);
        CHECK.due("length 8", 14, cyclesOf(house, core, 2));
        house.change(core, 1, 3, 0, 0);
        CHECK.due("lag 3: the ADD waits", 10, cyclesOf(house, core, 2));
        house.change(core, 1, 0, 4, 0);
        CHECK.due("load lag 4: the BOTH waits", 11, cyclesOf(house, core, 2));
        house.change(core, 1, 0, 0, 5);
        CHECK.due("penalty 5: the STOP waits", 12, cyclesOf(house, core, 2));
        house.change(core, 2, 3, 4, 5);
        CHECK.due("all of it", 8 + 3 + 4 + 5, cyclesOf(house, core, 2));
    }
}
