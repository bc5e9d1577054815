/** Promises 1, 2, 3, 17, 18, 19, 20: a new object, machine, program, drop, kind, rule, count. */
public final class HandleTest {
    private static final Check CHECK = new Check();
    private static final int[] NO_HANDLES = {0, -1, 61, 62, Integer.MAX_VALUE, Integer.MIN_VALUE};

    public static void main(String[] args) {
        newObject();
        machines();
        programs();
        drops();
        dropOfUsed();
        usedByEachOne();
        usedBySeveral();
        sixtyHandles();
        rules();
        counts();
        CHECK.done();
    }

    private static void newObject() {
        ProcessorHouse house = new ProcessorHouse();
        CHECK.due("rule()", 0, house.rule());
        for (int what = 0; what <= 7; what++) {
            CHECK.due("count(" + what + ")", 0, house.count(what));
        }
        for (int handle = 0; handle <= 61; handle++) {
            CHECK.due("kind(" + handle + ")", 0, house.kind(handle));
        }
        CHECK.due("rule() behind kind()", 0, house.rule());
        ProcessorHouse other = new ProcessorHouse();
        other.machine(1, 1);
        CHECK.due("another house's handles", 0, house.count(0));
    }

    private static void machines() {
        ProcessorHouse house = new ProcessorHouse();
        CHECK.answers("machine(1, 1)", 1, () -> house.machine(1, 1));
        CHECK.answers("machine(32, 8)", 2, () -> house.machine(32, 8));
        int[][] wrong = {{0, 1}, {33, 1}, {1, 0}, {1, 9}, {-1, 4}, {4, -1},
            {Integer.MIN_VALUE, 1}, {1, Integer.MAX_VALUE}, {64, 8}, {0, 0}};
        for (int[] w : wrong) {
            CHECK.thrown(house, IllegalArgumentException.class, "machine(" + w[0] + ", " + w[1] + ")",
                    () -> house.machine(w[0], w[1]));
        }
        CHECK.due("kind(2)", 1, house.kind(2));
        CHECK.answers("machine(8, 4)", 3, () -> house.machine(8, 4));
    }

    private static void programs() {
        ProcessorHouse house = new ProcessorHouse();
        for (int handle : NO_HANDLES) {
            CHECK.refused(house, 1, "program(" + handle + ")", () -> house.program(handle));
        }
        CHECK.refused(house, 1, "program(1) of nothing", () -> house.program(1));
        house.machine(8, 4);
        CHECK.answers("program(1)", 2, () -> house.program(1));
        CHECK.answers("program(1) again", 3, () -> house.program(1));
        CHECK.refused(house, 2, "program(2) of a program", () -> house.program(2));
        CHECK.due("kind(3)", 2, house.kind(3));
        house.drop(2);
        house.drop(3);
        house.drop(1);
        CHECK.refused(house, 1, "program(1) of a dropped one", () -> house.program(1));
    }

    /** A house with a thing of each kind: 1 machine, 2 program, 3 run, 4 core, 5 sim, 6 pair. */
    private static ProcessorHouse full() {
        ProcessorHouse house = new ProcessorHouse();
        house.machine(4, 2);
        house.program(1);
        house.word(2, 7, 0, 0, 0, 0);
        house.run(2);
        house.core(1, 1, 0, 0, 0);
        house.sim(4, 2);
        house.pair(2, 2, 1);
        return house;
    }

    private static void drops() {
        ProcessorHouse house = full();
        for (int handle : NO_HANDLES) {
            CHECK.refused(house, 1, "drop(" + handle + ")", () -> house.drop(handle));
        }
        CHECK.refused(house, 1, "drop(7)", () -> house.drop(7));
        for (int handle = 1; handle <= 6; handle++) {
            CHECK.due("kind(" + handle + ")", handle, house.kind(handle));
        }
        int[] order = {6, 5, 4, 3, 2, 1};
        for (int handle : order) {
            CHECK.answers("drop(" + handle + ")", handle, () -> house.drop(handle));
            CHECK.due("kind of a dropped one", 0, house.kind(handle));
            CHECK.refused(house, 1, "drop(" + handle + ") again", () -> house.drop(handle));
        }
        CHECK.due("count(0)", 6, house.count(0));
        CHECK.due("count(1)", 0, house.count(1));
        CHECK.answers("a dropped handle does not come again", 7, () -> house.machine(1, 1));
    }

    private static void dropOfUsed() {
        ProcessorHouse house = full();
        CHECK.refused(house, 3, "drop(1), by program and core", () -> house.drop(1));
        CHECK.refused(house, 3, "drop(2), by run, sim, pair", () -> house.drop(2));
        CHECK.refused(house, 3, "drop(4), by a sim", () -> house.drop(4));
        house.drop(5);
        CHECK.refused(house, 3, "drop(2), by run and pair", () -> house.drop(2));
        CHECK.answers("drop(4), free", 4, () -> house.drop(4));
        CHECK.refused(house, 3, "drop(1), by the program", () -> house.drop(1));
        house.drop(3);
        CHECK.refused(house, 3, "drop(2), by the pair, twice", () -> house.drop(2));
        house.drop(6);
        CHECK.answers("drop(2), free", 2, () -> house.drop(2));
        CHECK.answers("core(1, ..)", 7, () -> house.core(1, 1, 0, 0, 0));
        CHECK.refused(house, 3, "drop(1), by the core", () -> house.drop(1));
        house.drop(7);
        CHECK.answers("drop(1), free", 1, () -> house.drop(1));

        ProcessorHouse one = full();
        one.program(1);
        one.word(7, 7, 0, 0, 0, 0);
        one.pair(2, 7, 0);
        CHECK.refused(one, 3, "drop(7), the second of a pair", () -> one.drop(7));
        one.drop(8);
        CHECK.answers("drop(7)", 2, () -> one.drop(7));
        one.drop(3);
        one.drop(6);
        CHECK.refused(one, 3, "drop(2), by the sim alone", () -> one.drop(2));
    }

    /** One user alone, then none: 1 machine, 2 and 3 programs, 4 core; 5 is what uses them. */
    private static ProcessorHouse twoPrograms() {
        ProcessorHouse house = new ProcessorHouse();
        house.machine(4, 2);
        house.program(1);
        house.word(2, 7, 0, 0, 0, 0);
        house.program(1);
        house.word(3, 7, 0, 0, 0, 0);
        house.core(1, 1, 0, 0, 0);
        return house;
    }

    private static void usedByEachOne() {
        int[][] dueWhenUsed = {{2}, {2, 4}, {2}, {2, 3}, {3, 2}};
        for (int user = 0; user < dueWhenUsed.length; user++) {
            ProcessorHouse house = twoPrograms();
            switch (user) {
                case 0 -> house.run(2);
                case 1 -> house.sim(4, 2);
                case 2 -> house.pair(2, 2, 1);
                case 3 -> house.pair(2, 3, 0);
                default -> house.pair(3, 2, 0);
            }
            for (int handle : dueWhenUsed[user]) {
                CHECK.refused(house, 3, "drop(" + handle + "), used by " + user, () -> house.drop(handle));
            }
            for (int handle = 2; handle <= 3; handle++) {
                int program = handle;
                if (contains(dueWhenUsed[user], handle)) {
                    CHECK.refused(house, 3, "word of a used one", () -> house.word(program, 7, 0, 0, 0, 0));
                } else {
                    CHECK.answers("word of one that is not used", 2, () -> house.word(program, 7, 0, 0, 0, 0));
                }
            }
            if (contains(dueWhenUsed[user], 4)) {
                CHECK.refused(house, 3, "change of a used one", () -> house.change(4, 1, 0, 0, 0));
            } else {
                CHECK.answers("change of one that is not used", 1, () -> house.change(4, 1, 0, 0, 0));
            }
            CHECK.answers("what uses is not used itself", house.kind(5), () -> house.drop(5));
            for (int handle : dueWhenUsed[user]) {
                CHECK.answers("drop(" + handle + ")", house.kind(handle), () -> house.drop(handle));
            }
        }
    }

    private static boolean contains(int[] numbers, int number) {
        for (int k : numbers) {
            if (k == number) {
                return true;
            }
        }
        return false;
    }

    /** As long as one of several lives. */
    private static void usedBySeveral() {
        ProcessorHouse house = twoPrograms();
        house.run(2);
        house.run(2);
        house.sim(4, 2);
        house.sim(4, 3);
        house.drop(5);
        CHECK.refused(house, 3, "drop(2), by a second run", () -> house.drop(2));
        house.drop(6);
        CHECK.refused(house, 3, "drop(2), by a sim", () -> house.drop(2));
        house.drop(7);
        CHECK.refused(house, 3, "drop(4), by a second sim", () -> house.drop(4));
        CHECK.refused(house, 3, "change(4, ..), by a second sim", () -> house.change(4, 2, 0, 0, 0));
        CHECK.refused(house, 3, "drop(3), by a sim", () -> house.drop(3));
        CHECK.answers("drop(2), free", 2, () -> house.drop(2));
        house.drop(8);
        CHECK.refused(house, 3, "drop(1), by a program and a core", () -> house.drop(1));
        house.drop(4);
        CHECK.refused(house, 3, "drop(1), by a program", () -> house.drop(1));
        house.drop(3);
        CHECK.answers("drop(1), free", 1, () -> house.drop(1));
        CHECK.due("count(1)", 0, house.count(1));
        CHECK.due("count(0)", 8, house.count(0));
    }

    private static void sixtyHandles() {
        ProcessorHouse house = full();
        house.program(1);
        for (int handle = 8; handle <= 60; handle++) {
            CHECK.answers("machine(1, 1)", handle, () -> house.machine(1, 1));
        }
        CHECK.refused(house, 6, "machine(1, 1)", () -> house.machine(1, 1));
        CHECK.refused(house, 6, "program(1)", () -> house.program(1));
        CHECK.refused(house, 6, "run(2)", () -> house.run(2));
        CHECK.refused(house, 6, "core(1, ..)", () -> house.core(1, 1, 0, 0, 0));
        CHECK.refused(house, 6, "sim(4, 2)", () -> house.sim(4, 2));
        CHECK.refused(house, 6, "pair(2, 2, 0)", () -> house.pair(2, 2, 0));
        // What is told before rule 6 goes before it.
        CHECK.thrown(house, IllegalArgumentException.class, "machine(0, 1)", () -> house.machine(0, 1));
        CHECK.thrown(house, IllegalArgumentException.class, "core(1, 0, ..)", () -> house.core(1, 0, 0, 0, 0));
        CHECK.thrown(house, IllegalArgumentException.class, "pair(2, 2, 2)", () -> house.pair(2, 2, 2));
        CHECK.refused(house, 1, "program(61)", () -> house.program(61));
        CHECK.refused(house, 2, "program(2)", () -> house.program(2));
        CHECK.refused(house, 5, "run(7), without words", () -> house.run(7));
        CHECK.refused(house, 5, "sim(4, 7), without words", () -> house.sim(4, 7));
        CHECK.refused(house, 5, "pair(2, 7, 3), without words", () -> house.pair(2, 7, 3));
        CHECK.answers("drop(60)", 1, () -> house.drop(60));
        CHECK.refused(house, 6, "machine(1, 1) behind a drop", () -> house.machine(1, 1));
        CHECK.due("count(0)", 60, house.count(0));
        CHECK.due("count(1)", 59, house.count(1));
    }

    private static void rules() {
        ProcessorHouse house = full();
        CHECK.due("rule() before any", 0, house.rule());
        CHECK.refused(house, 1, "drop(9)", () -> house.drop(9));
        CHECK.refused(house, 3, "drop(1)", () -> house.drop(1));
        house.machine(1, 1);
        house.step(3, 1);
        CHECK.due("rule() behind calls that went", 3, house.rule());
        CHECK.thrown(house, IllegalArgumentException.class, "step(3, 0)", () -> house.step(3, 0));
        CHECK.due("rule() behind an argument's exception", 3, house.rule());
        CHECK.due("rule() asked again", 3, house.rule());
        house.kind(77);
        house.count(77);
        CHECK.due("rule() behind kind(), count()", 3, house.rule());
        CHECK.refused(house, 2, "step(1, 1)", () -> house.step(1, 1));
    }

    private static void counts() {
        ProcessorHouse house = full();
        int[] due = {6, 6, 1, 1, 1, 1, 1, 1};
        countsAre(house, due);
        house.machine(2, 2);
        house.program(7);
        house.run(2);
        house.drop(3);
        house.drop(6);
        countsAre(house, new int[] {9, 7, 2, 2, 1, 1, 1, 0});
        int[] none = {-1, 8, 9, Integer.MAX_VALUE, Integer.MIN_VALUE};
        for (int what : none) {
            CHECK.due("count(" + what + ")", ProcessorHouse.NONE, house.count(what));
        }
        for (int handle : NO_HANDLES) {
            CHECK.due("kind(" + handle + ")", 0, house.kind(handle));
        }
    }

    private static void countsAre(ProcessorHouse house, int[] due) {
        for (int what = 0; what < due.length; what++) {
            CHECK.due("count(" + what + ")", due[what], house.count(what));
        }
    }
}
