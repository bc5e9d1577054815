/** Promises 9, 10, 11, 12, 13: sim, cycles, state and number of a sim, agrees. */
public final class SimTest {
    private static final Check CHECK = new Check();

    public static void main(String[] args) {
        sims();
        wrongCycles();
        cycleByCycle();
        end();
        registersThatAreRead();
        latestWriter();
        penaltyBeforeLag();
        branchThatDoesNotGo();
        numbersOfWhatLeft();
        agreement();
        agreementOfOthers();
        agreementRefused();
        CHECK.done();
    }

    private static ProcessorHouse house(int[]... words) {
        ProcessorHouse house = new ProcessorHouse();
        house.machine(8, 4);
        house.program(1);
        for (int[] w : words) {
            house.word(2, w[0], w[1], w[2], w[3], w[4]);
        }
        return house;
    }

    private static int[] w(int op, int d, int a, int b, int n) {
        return new int[] {op, d, a, b, n};
    }

    private static void sims() {
        ProcessorHouse house = house(w(7, 0, 0, 0, 0));
        house.core(1, 1, 0, 0, 0);
        CHECK.answers("sim(3, 2)", 4, () -> house.sim(3, 2));
        CHECK.answers("sim(3, 2) again", 5, () -> house.sim(3, 2));
        CHECK.due("kind(5)", 5, house.kind(5));
        CHECK.refused(house, 1, "sim(6, 6)", () -> house.sim(6, 6));
        CHECK.refused(house, 2, "sim(2, 6)", () -> house.sim(2, 6));
        CHECK.refused(house, 1, "sim(3, 6)", () -> house.sim(3, 6));
        CHECK.refused(house, 2, "sim(3, 3)", () -> house.sim(3, 3));
        CHECK.refused(house, 2, "sim(2, 3), the other way round", () -> house.sim(2, 3));
        house.program(1);
        CHECK.refused(house, 5, "sim(3, 6), no words", () -> house.sim(3, 6));
        house.machine(8, 4);
        house.program(7);
        CHECK.refused(house, 4, "sim(3, 8), another machine and no words", () -> house.sim(3, 8));
        house.word(8, 7, 0, 0, 0, 0);
        CHECK.refused(house, 4, "sim(3, 8), another machine", () -> house.sim(3, 8));
        house.cycles(4, 1);
        CHECK.due("a sim of its own", 0, house.state(5, 2));
    }

    private static void wrongCycles() {
        ProcessorHouse house = house(w(0, 0, 0, 0, 1));
        house.core(1, 1, 0, 0, 0);
        house.sim(3, 2);
        for (int n : new int[] {0, -1, 2001, Integer.MIN_VALUE, Integer.MAX_VALUE}) {
            CHECK.thrown(house, IllegalArgumentException.class, "cycles(4, " + n + ")", () -> house.cycles(4, n));
            CHECK.refused(house, 1, "cycles(5, " + n + ")", () -> house.cycles(5, n));
            CHECK.refused(house, 2, "cycles(3, " + n + ")", () -> house.cycles(3, n));
        }
        CHECK.answers("cycles(4, 2000)", 2000, () -> house.cycles(4, 2000));
        CHECK.answers("cycles(4, 2000) again", 2000, () -> house.cycles(4, 2000));
        states(house, 4, 3999, 0, 4000, 4000, 0, 0);
        house.run(2);
        CHECK.refused(house, 2, "cycles of a run", () -> house.cycles(5, 1));
        for (int what : new int[] {-1, 6, Integer.MAX_VALUE, Integer.MIN_VALUE}) {
            CHECK.thrown(house, IllegalArgumentException.class, "state(4, " + what + ")", () -> house.state(4, what));
        }
        CHECK.thrown(house, IllegalArgumentException.class, "number(4, 8)", () -> house.number(4, 8));
        CHECK.thrown(house, IllegalArgumentException.class, "number(4, -1)", () -> house.number(4, -1));
    }

    private static void states(ProcessorHouse house, int sim, int... due) {
        for (int what = 0; what < due.length; what++) {
            CHECK.due("state(" + sim + ", " + what + ")", due[what], house.state(sim, what));
        }
    }

    /** LOAD with load lag 2, ADD of it with lag 1, STORE of that, BRANCH with penalty 3, STOP; length 2. */
    private static void cycleByCycle() {
        ProcessorHouse house = house(w(4, 0, 0, 0, 0), w(1, 1, 0, 0, 0), w(5, 0, 2, 1, 0), w(0, 2, 0, 0, 1),
                w(6, 0, 2, 0, 5), w(7, 0, 0, 0, 0));
        house.core(1, 2, 1, 2, 3);
        house.sim(3, 2);
        states(house, 4, 0, 0, 0, 0, 0, 0);
        // Entries: LOAD 1, ADD 4, STORE 6, SET 7, BRANCH 9, STOP 13, which leaves in 15.
        int[] entered = {1, 1, 1, 2, 2, 3, 4, 4, 5, 5, 5, 5, 6, 6, 6};
        int[] left = {0, 0, 1, 1, 1, 2, 2, 3, 4, 4, 5, 5, 5, 5, 6};
        int[] penalty = {0, 0, 0, 0, 0, 0, 0, 0, 0, 0, 0, 0, 3, 3, 3};
        int[] lags = {0, 0, 0, 2, 2, 3, 3, 3, 4, 4, 4, 4, 4, 4, 4};
        for (int k = 0; k < entered.length; k++) {
            CHECK.answers("cycles(4, 1)", 1, () -> house.cycles(4, 1));
            states(house, 4, left[k], k == 14 ? 1 : 0, k + 1, entered[k], penalty[k], lags[k]);
        }
        CHECK.answers("cycles(4, 1) behind the end", 0, () -> house.cycles(4, 1));
        states(house, 4, 6, 1, 15, 6, 3, 4);
    }

    private static void end() {
        ProcessorHouse house = house(w(7, 0, 0, 0, 0), w(0, 0, 0, 0, 1));
        house.core(1, 8, 8, 8, 8);
        house.sim(3, 2);
        CHECK.answers("cycles(4, 8)", 8, () -> house.cycles(4, 8));
        states(house, 4, 0, 0, 8, 1, 0, 0);
        CHECK.answers("cycles(4, 2000)", 1, () -> house.cycles(4, 2000));
        states(house, 4, 1, 1, 9, 1, 0, 0);
        CHECK.thrown(house, IllegalArgumentException.class, "cycles(4, 0)", () -> house.cycles(4, 0));
    }

    /** In which cycle the word enters behind SET of register 1 and SET of register 2, with lag 6. */
    private static int entry(int[] word) {
        ProcessorHouse house = house(w(0, 1, 0, 0, 1), w(0, 2, 0, 0, 1), word);
        house.core(1, 1, 6, 0, 0);
        house.sim(3, 2);
        int cycle = 0;
        while (house.state(4, 3) < 3 && cycle < 100) {
            cycle += house.cycles(4, 1);
        }
        CHECK.due("lost by lags", cycle - 3, house.state(4, 5));
        return cycle;
    }

    private static void registersThatAreRead() {
        for (int op = 1; op <= 3; op++) {
            CHECK.due("ADD, SUB, BOTH read a", 8, entry(w(op, 1, 1, 0, 0)));
            CHECK.due("ADD, SUB, BOTH read b", 9, entry(w(op, 1, 0, 2, 0)));
            CHECK.due("ADD, SUB, BOTH read both", 9, entry(w(op, 0, 2, 1, 0)));
            CHECK.due("ADD, SUB, BOTH do not read d", 3, entry(w(op, 1, 0, 0, 0)));
        }
        CHECK.due("SET reads none", 3, entry(w(0, 1, 2, 1, 0)));
        CHECK.due("LOAD reads a", 9, entry(w(4, 0, 2, 0, 0)));
        CHECK.due("LOAD does not read b, d", 3, entry(w(4, 1, 0, 2, 0)));
        CHECK.due("STORE reads a", 8, entry(w(5, 0, 1, 0, 0)));
        CHECK.due("STORE reads b", 9, entry(w(5, 0, 0, 2, 0)));
        CHECK.due("STORE does not read d", 3, entry(w(5, 2, 0, 0, 0)));
        CHECK.due("BRANCH reads a", 9, entry(w(6, 0, 2, 0, 0)));
        CHECK.due("BRANCH does not read b, d", 3, entry(w(6, 1, 0, 2, 0)));
        CHECK.due("STOP reads none", 3, entry(w(7, 1, 2, 1, 0)));
    }

    private static void latestWriter() {
        ProcessorHouse house = house(w(4, 0, 1, 0, 0), w(0, 0, 0, 0, 3), w(1, 2, 0, 0, 0), w(7, 0, 0, 0, 0));
        house.core(1, 1, 0, 8, 0);
        house.sim(3, 2);
        CHECK.answers("SET behind LOAD is the latest", 5, () -> house.cycles(4, 2000));
        ProcessorHouse other = house(w(0, 0, 0, 0, 3), w(4, 0, 1, 0, 0), w(1, 2, 0, 0, 0), w(7, 0, 0, 0, 0));
        other.core(1, 1, 8, 0, 0);
        other.sim(3, 2);
        CHECK.answers("LOAD behind SET is the latest", 5, () -> other.cycles(4, 2000));
        ProcessorHouse none = house(w(5, 2, 0, 0, 0), w(6, 2, 0, 0, 0), w(1, 0, 2, 2, 0), w(7, 0, 0, 0, 0));
        none.core(1, 1, 8, 8, 0);
        none.sim(3, 2);
        CHECK.answers("STORE and BRANCH write no register", 5, () -> none.cycles(4, 2000));
    }

    /** A LOAD, a BRANCH that goes, then a word that waits for both. */
    private static void penaltyBeforeLag() {
        int[][] due = {{2, 5, 2, 3}, {8, 5, 8, 0}, {5, 5, 5, 0}, {0, 5, 0, 5}, {4, 5, 4, 1}, {0, 0, 0, 0}};
        for (int[] row : due) {
            ProcessorHouse house = house(w(0, 1, 0, 0, 1), w(4, 0, 2, 2, 0), w(6, 0, 1, 0, 3), w(1, 0, 0, 0, 0),
                    w(7, 0, 0, 0, 0));
            // The ADD waits for the LOAD, which entered a cycle before the BRANCH.
            house.core(1, 1, 0, row[1] + (row[1] > 0 ? 1 : 0), row[0]);
            house.sim(3, 2);
            house.cycles(4, 2000);
            CHECK.due("lost by the penalty " + row[0], row[2], house.state(4, 4));
            CHECK.due("lost by lags behind the penalty " + row[0], row[3], house.state(4, 5));
        }
    }

    private static void branchThatDoesNotGo() {
        ProcessorHouse house = house(w(6, 0, 1, 0, 0), w(7, 0, 0, 0, 0));
        house.core(1, 1, 0, 0, 8);
        house.sim(3, 2);
        CHECK.answers("no penalty", 3, () -> house.cycles(4, 2000));
        CHECK.due("lost by the penalty", 0, house.state(4, 4));
        ProcessorHouse next = house(w(0, 1, 0, 0, 1), w(6, 0, 1, 0, 2), w(7, 0, 0, 0, 0));
        next.core(1, 1, 0, 0, 8);
        next.sim(3, 2);
        CHECK.answers("a penalty, though it goes to the next word", 12, () -> next.cycles(4, 2000));
        CHECK.due("lost by the penalty", 8, next.state(4, 4));
    }

    private static void numbersOfWhatLeft() {
        ProcessorHouse house = house(w(0, 0, 0, 0, 5), w(5, 0, 0, 0, 0), w(0, 0, 0, 0, 6), w(7, 0, 0, 0, 0));
        house.core(1, 3, 0, 0, 0);
        house.sim(3, 2);
        house.cycles(4, 3);
        CHECK.due("three entered", 3, house.state(4, 3));
        CHECK.due("register 0 before it left", 0, house.number(4, 0));
        house.cycles(4, 1);
        CHECK.due("register 0 when it left", 5, house.number(4, 0));
        CHECK.due("place 1 before the STORE left", 0, house.number(4, 5));
        house.cycles(4, 1);
        CHECK.due("place 1 when the STORE left", 5, house.number(4, 5));
        CHECK.due("register 0 before the other SET left", 5, house.number(4, 0));
        house.cycles(4, 1);
        CHECK.due("register 0 when that left", 6, house.number(4, 0));
        CHECK.due("not ended", 0, house.state(4, 1));
        house.cycles(4, 1);
        CHECK.due("ended", 1, house.state(4, 1));
    }

    /** Counts up without an end: SET 0 1; ADD 1 1 0; STORE; BRANCH to the ADD. */
    private static ProcessorHouse counter() {
        return house(w(0, 0, 0, 0, 1), w(1, 1, 1, 0, 0), w(5, 0, 1, 1, 0), w(6, 0, 0, 0, 1));
    }

    private static void agreement() {
        ProcessorHouse house = counter();
        int core = house.core(1, 4, 3, 2, 1);
        int sim = house.sim(core, 2);
        int run = house.run(2);
        CHECK.due("both at first", 1, house.agrees(sim, run) ? 1 : 0);
        CHECK.due("no step more", 0, house.state(run, 0));
        house.cycles(sim, 100);
        int left = house.state(sim, 0);
        CHECK.due("the run goes on", 1, house.agrees(sim, run) ? 1 : 0);
        CHECK.due("so many steps", left, house.state(run, 0));
        CHECK.due("the sim does not", 100, house.state(sim, 2));
        house.step(run, 1);
        CHECK.due("the run is ahead", 0, house.agrees(sim, run) ? 1 : 0);
        CHECK.due("it stays there", left + 1, house.state(run, 0));
        for (int k = 0; k < 10; k++) {
            house.cycles(sim, 2000);
        }
        CHECK.due("beyond 2000 steps", 1, house.agrees(sim, run) ? 1 : 0);
        CHECK.due("so many steps", house.state(sim, 0), house.state(run, 0));
    }

    private static void agreementOfOthers() {
        ProcessorHouse house = counter();
        int core = house.core(1, 1, 0, 0, 0);
        int sim = house.sim(core, 2);
        house.cycles(sim, 50);
        int copy = house.program(1);
        house.word(copy, 0, 0, 0, 0, 1);
        house.word(copy, 1, 1, 1, 0, 0);
        house.word(copy, 5, 0, 1, 1, 0);
        house.word(copy, 6, 0, 0, 0, 1);
        int run = house.run(copy);
        CHECK.due("another program, though the same words", 0, house.agrees(sim, run) ? 1 : 0);
        CHECK.due("it has gone on", 49, house.state(run, 0));
        int small = house.machine(3, 1);
        int stop = house.program(small);
        house.word(stop, 7, 0, 0, 0, 0);
        int ended = house.run(stop);
        CHECK.due("a run of another machine", 0, house.agrees(sim, ended) ? 1 : 0);
        CHECK.due("it has ended", 1, house.state(ended, 0));

        ProcessorHouse first = counter();
        int both = first.sim(first.core(1, 1, 0, 0, 0), 2);
        int other = first.program(1);
        first.word(other, 7, 0, 0, 0, 0);
        CHECK.due("another program, nothing done", 0, first.agrees(both, first.run(other)) ? 1 : 0);
    }

    private static void agreementRefused() {
        ProcessorHouse house = counter();
        int core = house.core(1, 1, 0, 0, 0);
        int sim = house.sim(core, 2);
        int run = house.run(2);
        house.cycles(sim, 20);
        CHECK.refused(house, 2, "agrees(run, sim)", () -> house.agrees(run, sim) ? 1 : 0);
        CHECK.refused(house, 2, "agrees(sim, sim)", () -> house.agrees(sim, sim) ? 1 : 0);
        CHECK.refused(house, 2, "agrees(run, 60)", () -> house.agrees(run, 60) ? 1 : 0);
        CHECK.refused(house, 1, "agrees(sim, 60)", () -> house.agrees(sim, 60) ? 1 : 0);
        CHECK.refused(house, 1, "agrees(60, run)", () -> house.agrees(60, run) ? 1 : 0);
    }
}
