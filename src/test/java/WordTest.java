/** Promise 4: word, and what each op does (promises 6 and 12 tell it). */
public final class WordTest {
    private static final Check CHECK = new Check();

    public static void main(String[] args) {
        counts();
        wrongOpsAndRegisters();
        full();
        rules();
        numbersAreCut();
        ops();
        placesAreCut();
        branches();
        CHECK.done();
    }

    private static ProcessorHouse house(int bits, int places) {
        ProcessorHouse house = new ProcessorHouse();
        house.machine(bits, places);
        house.program(1);
        return house;
    }

    private static void counts() {
        ProcessorHouse house = house(8, 4);
        house.program(1);
        CHECK.answers("word 0", 1, () -> house.word(2, 0, 0, 0, 0, 1));
        CHECK.answers("word 1", 2, () -> house.word(2, 7, 3, 3, 3, Integer.MIN_VALUE));
        CHECK.answers("word 0 of another program", 1, () -> house.word(3, 6, 3, 3, 3, Integer.MAX_VALUE));
        CHECK.answers("word 2", 3, () -> house.word(2, 5, 0, 1, 2, 0));
    }

    private static void wrongOpsAndRegisters() {
        ProcessorHouse house = house(8, 4);
        int[][] wrong = {{8, 0, 0, 0}, {-1, 0, 0, 0}, {Integer.MAX_VALUE, 0, 0, 0}, {Integer.MIN_VALUE, 0, 0, 0},
            {0, 4, 0, 0}, {0, -1, 0, 0}, {0, 0, 4, 0}, {0, 0, -1, 0}, {0, 0, 0, 4}, {0, 0, 0, -1},
            {7, 4, 0, 0}, {7, 0, 4, 0}, {7, 0, 0, 4}, {5, 9, 0, 0}, {6, 0, 0, Integer.MIN_VALUE}};
        for (int[] w : wrong) {
            CHECK.thrown(house, IllegalArgumentException.class, "word(2, " + w[0] + ", " + w[1] + ", ..)",
                    () -> house.word(2, w[0], w[1], w[2], w[3], 0));
        }
        CHECK.answers("the first word", 1, () -> house.word(2, 7, 3, 3, 3, 0));
    }

    private static void full() {
        ProcessorHouse house = house(8, 4);
        for (int k = 1; k <= 24; k++) {
            CHECK.answers("word", k, () -> house.word(2, 0, 0, 0, 0, 0));
        }
        CHECK.thrown(house, UnsupportedOperationException.class, "a 25th word", () -> house.word(2, 0, 0, 0, 0, 0));
        CHECK.thrown(house, IllegalArgumentException.class, "a wrong 25th word", () -> house.word(2, 8, 0, 0, 0, 0));
        house.run(2);
        CHECK.refused(house, 3, "a 25th word, used", () -> house.word(2, 8, 0, 0, 0, 0));
        house.drop(3);
        CHECK.thrown(house, UnsupportedOperationException.class, "still full", () -> house.word(2, 7, 0, 0, 0, 0));
    }

    private static void rules() {
        ProcessorHouse house = house(8, 4);
        CHECK.refused(house, 1, "word(3, ..)", () -> house.word(3, 9, 9, 9, 9, 0));
        CHECK.refused(house, 1, "word(-5, ..)", () -> house.word(-5, 0, 0, 0, 0, 0));
        CHECK.refused(house, 2, "word(1, ..)", () -> house.word(1, 9, 9, 9, 9, 0));
        house.word(2, 7, 0, 0, 0, 0);
        house.run(2);
        CHECK.refused(house, 3, "word, used by a run", () -> house.word(2, 9, 0, 0, 0, 0));
        house.drop(3);
        CHECK.answers("word, free", 2, () -> house.word(2, 7, 0, 0, 0, 0));
        house.pair(2, 2, 0);
        CHECK.refused(house, 3, "word, used by a pair", () -> house.word(2, 7, 0, 0, 0, 0));
        house.drop(4);
        CHECK.answers("word, free again", 3, () -> house.word(2, 7, 0, 0, 0, 0));
        house.core(1, 1, 0, 0, 0);
        CHECK.answers("word, a core does not use it", 4, () -> house.word(2, 7, 0, 0, 0, 0));
        house.sim(5, 2);
        CHECK.refused(house, 3, "word, used by a sim", () -> house.word(2, 7, 0, 0, 0, 0));
    }

    /** SET with n on a machine of so many bits, seen in register 3. */
    private static long set(int bits, int n) {
        ProcessorHouse house = house(bits, 1);
        house.word(2, 0, 3, 0, 0, n);
        int run = house.run(2);
        house.step(run, 1);
        return house.number(run, 3);
    }

    private static void numbersAreCut() {
        CHECK.due("1 bit, 1", 1, set(1, 1));
        CHECK.due("1 bit, 2", 0, set(1, 2));
        CHECK.due("1 bit, -1", 1, set(1, -1));
        CHECK.due("8 bits, 255", 255, set(8, 255));
        CHECK.due("8 bits, 256", 0, set(8, 256));
        CHECK.due("8 bits, -1", 255, set(8, -1));
        CHECK.due("31 bits, -1", 2147483647L, set(31, -1));
        CHECK.due("31 bits, the least", 0, set(31, Integer.MIN_VALUE));
        CHECK.due("32 bits, -1", 4294967295L, set(32, -1));
        CHECK.due("32 bits, the least", 2147483648L, set(32, Integer.MIN_VALUE));
        CHECK.due("32 bits, the greatest", 2147483647L, set(32, Integer.MAX_VALUE));
    }

    /** Register 2 behind: register 0 is left, 1 is right, 2 is both by the op. */
    private static long of(int bits, int op, int left, int right) {
        ProcessorHouse house = house(bits, 1);
        house.word(2, 0, 0, 3, 3, left);
        house.word(2, 0, 1, 3, 3, right);
        house.word(2, op, 2, 0, 1, 77);
        int run = house.run(2);
        house.step(run, 3);
        CHECK.due("left stays", left & 0xFFFFFFFFL & ((1L << bits) - 1), house.number(run, 0));
        CHECK.due("right stays", right & 0xFFFFFFFFL & ((1L << bits) - 1), house.number(run, 1));
        return house.number(run, 2);
    }

    private static void ops() {
        CHECK.due("ADD", 12, of(8, 1, 5, 7));
        CHECK.due("ADD over the bits", 4, of(8, 1, 250, 10));
        CHECK.due("ADD over 32 bits", 4294967294L, of(32, 1, -1, -1));
        CHECK.due("SUB", 3, of(8, 2, 10, 7));
        CHECK.due("SUB below 0", 253, of(8, 2, 7, 10));
        CHECK.due("SUB below 0, 32 bits", 4294967295L, of(32, 2, 0, 1));
        CHECK.due("BOTH", 8, of(8, 3, 12, 10));
        CHECK.due("BOTH, 32 bits", 2147483648L, of(32, 3, -1, Integer.MIN_VALUE));
        CHECK.due("BRANCH writes none", 0, of(8, 6, 1, 1));
        CHECK.due("STORE writes no register", 0, of(8, 5, 1, 1));
        CHECK.due("STOP writes none", 0, of(8, 7, 1, 1));
    }

    private static void placesAreCut() {
        ProcessorHouse house = house(32, 3);
        house.word(2, 0, 0, 0, 0, -1);
        house.word(2, 0, 1, 0, 0, 9);
        house.word(2, 5, 0, 0, 1, 0);
        house.word(2, 0, 0, 0, 0, 5);
        house.word(2, 5, 2, 0, 0, 0);
        house.word(2, 0, 2, 0, 0, 3);
        house.word(2, 4, 3, 2, 0, 0);
        int run = house.run(2);
        house.step(run, 7);
        // 4294967295 modulo 3 is 0, 5 modulo 3 is 2, 3 modulo 3 is 0.
        CHECK.due("place 0", 9, house.number(run, 4));
        CHECK.due("place 1", 0, house.number(run, 5));
        CHECK.due("place 2", 5, house.number(run, 6));
        CHECK.due("loaded", 9, house.number(run, 3));
        CHECK.due("STORE does not write d", 3, house.number(run, 2));
    }

    /** Five words: register 0 is not 0, BRANCH to n from word 1; words 2, 3, 4 set registers 1, 2, 3 to 1. */
    private static String wordsDone(int bits, int n, int steps) {
        ProcessorHouse house = house(bits, 1);
        house.word(2, 0, 0, 0, 0, 1);
        house.word(2, 6, 1, 0, 1, n);
        house.word(2, 0, 1, 0, 0, 1);
        house.word(2, 0, 2, 0, 0, 1);
        house.word(2, 0, 3, 0, 0, 1);
        int run = house.run(2);
        house.step(run, steps);
        return "" + house.number(run, 1) + house.number(run, 2) + house.number(run, 3);
    }

    private static void branches() {
        String[][] due = {{"2", "100"}, {"3", "010"}, {"4", "001"}, {"0", "000"}, {"1", "000"}, {"9", "001"},
            {"-1", "001"}, {"-2", "010"}, {"-3", "100"}, {"2147483647", "100"}, {"-2147483648", "100"}};
        for (String[] row : due) {
            int n = Integer.parseInt(row[0]);
            for (int bits : new int[] {1, 2, 8, 32}) {
                String got = wordsDone(bits, n, 3);
                if (!got.equals(row[1])) {
                    CHECK.tell("BRANCH to " + n + " with " + bits + " bits did " + got + ", due is " + row[1]);
                }
            }
        }
        ProcessorHouse house = house(8, 1);
        house.word(2, 6, 0, 0, 0, 2);
        house.word(2, 0, 1, 0, 0, 1);
        house.word(2, 0, 2, 0, 0, 1);
        int run = house.run(2);
        house.step(run, 2);
        CHECK.due("BRANCH that does not go, a is 0", 1, house.number(run, 1));
        CHECK.due("the word behind that one", 0, house.number(run, 2));
    }
}
