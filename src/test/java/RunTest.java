/** Promises 5, 6, 11, 12: run, step, and state and number of a run. */
public final class RunTest {
    private static final Check CHECK = new Check();

    public static void main(String[] args) {
        runs();
        steps();
        wrongSteps();
        aroundTheEnd();
        states();
        numbers();
        CHECK.done();
    }

    /** Program 2: SET 0 1; ADD 1 1 0; STORE at 1 the 1; STOP, when it is wanted. */
    private static ProcessorHouse house(boolean stop) {
        ProcessorHouse house = new ProcessorHouse();
        house.machine(8, 4);
        house.program(1);
        house.word(2, 0, 0, 0, 0, 1);
        house.word(2, 1, 1, 1, 0, 0);
        house.word(2, 5, 0, 1, 1, 0);
        if (stop) {
            house.word(2, 7, 0, 0, 0, 0);
        }
        return house;
    }

    private static void runs() {
        ProcessorHouse house = house(true);
        house.program(1);
        CHECK.answers("run(2)", 4, () -> house.run(2));
        CHECK.answers("run(2) again", 5, () -> house.run(2));
        CHECK.due("kind(5)", 3, house.kind(5));
        CHECK.refused(house, 5, "run(3), no words", () -> house.run(3));
        CHECK.refused(house, 2, "run(1)", () -> house.run(1));
        CHECK.refused(house, 2, "run(4)", () -> house.run(4));
        CHECK.refused(house, 1, "run(6)", () -> house.run(6));
        CHECK.refused(house, 1, "run(0)", () -> house.run(0));
        house.step(4, 2);
        CHECK.due("a run of its own", 0, house.number(5, 1));
        CHECK.due("steps of its own", 0, house.state(5, 0));
        house.drop(3);
        CHECK.refused(house, 1, "run(3), dropped", () -> house.run(3));
    }

    private static void steps() {
        ProcessorHouse house = house(true);
        house.run(2);
        for (int what = 0; what < 8; what++) {
            CHECK.due("number(3, " + what + ") at first", 0, house.number(3, what));
        }
        CHECK.answers("step(3, 1)", 1, () -> house.step(3, 1));
        CHECK.due("register 0", 1, house.number(3, 0));
        CHECK.due("register 1", 0, house.number(3, 1));
        CHECK.answers("step(3, 2)", 2, () -> house.step(3, 2));
        CHECK.due("register 1", 1, house.number(3, 1));
        CHECK.due("place 1", 1, house.number(3, 5));
        CHECK.due("not ended before STOP", 0, house.state(3, 1));
        CHECK.answers("step(3, 2000), with STOP", 1, () -> house.step(3, 2000));
        CHECK.due("ended behind STOP", 1, house.state(3, 1));
        CHECK.due("STOP is a step, too", 4, house.state(3, 0));
        CHECK.answers("step(3, 1) behind the end", 0, () -> house.step(3, 1));
        CHECK.due("steps stay", 4, house.state(3, 0));
        CHECK.refused(house, 2, "step(2, 1)", () -> house.step(2, 1));
        CHECK.refused(house, 1, "step(4, 1)", () -> house.step(4, 1));
    }

    private static void wrongSteps() {
        ProcessorHouse house = house(false);
        house.run(2);
        for (int n : new int[] {0, -1, 2001, Integer.MIN_VALUE, Integer.MAX_VALUE}) {
            CHECK.thrown(house, IllegalArgumentException.class, "step(3, " + n + ")", () -> house.step(3, n));
            CHECK.refused(house, 1, "step(9, " + n + ")", () -> house.step(9, n));
            CHECK.refused(house, 2, "step(1, " + n + ")", () -> house.step(1, n));
        }
        ProcessorHouse other = house(true);
        other.run(2);
        other.step(3, 4);
        CHECK.thrown(other, IllegalArgumentException.class, "step(3, 0) behind the end", () -> other.step(3, 0));
    }

    private static void aroundTheEnd() {
        ProcessorHouse house = house(false);
        house.run(2);
        CHECK.answers("step(3, 2000), round and round", 2000, () -> house.step(3, 2000));
        // 2000 steps are 666 rounds of three and two words more.
        CHECK.due("register 1", 667 % 256, house.number(3, 1));
        CHECK.due("place 666 modulo 4", 666 % 256, house.number(3, 4 + 666 % 256 % 4));
        CHECK.due("ended", 0, house.state(3, 1));
        CHECK.due("steps", 2000, house.state(3, 0));
        CHECK.answers("step(3, 1)", 1, () -> house.step(3, 1));
        CHECK.due("steps", 2001, house.state(3, 0));
    }

    private static void states() {
        ProcessorHouse house = house(true);
        house.run(2);
        for (int what : new int[] {2, 3, 4, 5, 6, -1, Integer.MAX_VALUE, Integer.MIN_VALUE}) {
            CHECK.thrown(house, IllegalArgumentException.class, "state(3, " + what + ")", () -> house.state(3, what));
        }
        CHECK.refused(house, 2, "state(2, 0)", () -> house.state(2, 0));
        CHECK.refused(house, 2, "state(1, 77)", () -> house.state(1, 77));
        CHECK.refused(house, 1, "state(4, 77)", () -> house.state(4, 77));
        CHECK.refused(house, 1, "state(-1, 0)", () -> house.state(-1, 0));
        house.core(1, 1, 0, 0, 0);
        house.pair(2, 2, 0);
        CHECK.refused(house, 2, "state of a core", () -> house.state(4, 0));
        CHECK.refused(house, 2, "state of a pair", () -> house.state(5, 0));
    }

    private static void numbers() {
        for (int places = 1; places <= 8; places++) {
            ProcessorHouse house = new ProcessorHouse();
            house.machine(8, places);
            house.program(1);
            house.word(2, 7, 0, 0, 0, 0);
            house.run(2);
            int behind = 4 + places;
            CHECK.answers("the last place", 0, () -> house.number(3, behind - 1));
            CHECK.thrown(house, IllegalArgumentException.class, "behind the last place", () -> house.number(3, behind));
            CHECK.thrown(house, IllegalArgumentException.class, "number(3, -1)", () -> house.number(3, -1));
            CHECK.thrown(house, IllegalArgumentException.class, "a greatest what",
                    () -> house.number(3, Integer.MAX_VALUE));
            CHECK.thrown(house, IllegalArgumentException.class, "a least what",
                    () -> house.number(3, Integer.MIN_VALUE));
            CHECK.refused(house, 2, "number(2, -1)", () -> house.number(2, -1));
            CHECK.refused(house, 1, "number(4, -1)", () -> house.number(4, -1));
            house.drop(3);
            CHECK.refused(house, 1, "number of a dropped one", () -> house.number(3, 0));
        }
    }
}
