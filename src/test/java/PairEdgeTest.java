/** Pairs at their edges: the 2000 states, rows that are empty or full, what is an end, and the order of ends. */
public final class PairEdgeTest {
    private static final Check CHECK = new Check();

    public static void main(String[] args) {
        twoThousandStates();
        twoThousandStatesWithRows();
        oneStateMore();
        oneStateMoreWithRows();
        withoutBound();
        rowsByTheirStates();
        otherWordsGoWithAFullRow();
        storeWaitsForRoom();
        rowsThatAreEmptyAgain();
        storeGoesBetweenTheOthersWords();
        storeGoesAtAnyTime();
        loadsFromTheRow();
        loadsOfTheOther();
        firstOfTheRowGoesFirst();
        rowsEmptyBehindTheEnd();
        nothingWaitsInKindZero();
        endedHasNoNextWord();
        endsAreToldOnce();
        orderOfRegisters();
        orderOfRegisterAndMemory();
        orderOfBothPrograms();
        orderOfPlaces();
        oneProgramTwice();
        CHECK.done();
    }

    private static int[] w(int op, int d, int a, int b, int n) {
        return new int[] {op, d, a, b, n};
    }

    private static ProcessorHouse house(int bits, int places) {
        ProcessorHouse house = new ProcessorHouse();
        house.machine(bits, places);
        return house;
    }

    private static int program(ProcessorHouse house, int[]... words) {
        int program = house.program(1);
        for (int[] w : words) {
            house.word(program, w[0], w[1], w[2], w[3], w[4]);
        }
        return program;
    }

    private static int idle(ProcessorHouse house) {
        return program(house, w(7, 0, 0, 0, 0));
    }

    /** So many words that change nothing: one state more than words. */
    private static int straight(ProcessorHouse house, int words) {
        int program = house.program(1);
        for (int k = 0; k < words; k++) {
            house.word(program, 3, 0, 0, 0, 0);
        }
        return program;
    }

    /** SET 0 n; SET 1 1; SUB 0 0 1; BRANCH 0 to 2: alone it has 3 + 2n states. */
    private static int loop(ProcessorHouse house, int n) {
        return program(house, w(0, 0, 0, 0, n), w(0, 1, 0, 0, 1), w(2, 0, 0, 1, 0), w(6, 0, 0, 0, 2));
    }

    /** As loop(), with a word before it: 4 + 2n states. */
    private static int evenLoop(ProcessorHouse house, int n) {
        return program(house, w(3, 2, 2, 2, 0), w(0, 0, 0, 0, n), w(0, 1, 0, 0, 1), w(2, 0, 0, 1, 0),
                w(6, 0, 0, 0, 3));
    }

    /** Words that change nothing before and behind a store of 0: before + 1 states, then twice behind + 1. */
    private static int storing(ProcessorHouse house, int before, int behind) {
        int program = straight(house, before);
        house.word(program, 5, 0, 0, 0, 0);
        for (int k = 0; k < behind; k++) {
            house.word(program, 3, 0, 0, 0, 0);
        }
        return program;
    }

    private static void found(ProcessorHouse house, int one, int two, int kind, int states, int ends) {
        int pair = house.pair(one, two, kind);
        CHECK.answers("states of kind " + kind, states, () -> house.explore(pair, 0));
        CHECK.answers("ends of kind " + kind, ends, () -> house.explore(pair, 1));
        CHECK.answers("states without a step", 0, () -> house.explore(pair, 2));
    }

    private static void isTooLarge(ProcessorHouse house, int one, int two, int kind) {
        int pair = house.pair(one, two, kind);
        for (int what = 0; what <= 2; what++) {
            int asked = what;
            CHECK.refused(house, 7, "explore(.., " + what + ")", () -> house.explore(pair, asked));
        }
        CHECK.refused(house, 7, "end(.., 0, 0)", () -> house.end(pair, 0, 0));
        CHECK.answers("it can be dropped", 6, () -> house.drop(pair));
    }

    /** The states of a straight one, times those of a loop. */
    private static void twoThousandStates() {
        for (int states : new int[] {2, 4, 5, 8, 10, 16, 20, 25}) {
            ProcessorHouse house = house(16, 1);
            int straight = straight(house, states - 1);
            int rest = 2000 / states;
            int loop = rest % 2 == 1 ? loop(house, (rest - 3) / 2) : evenLoop(house, (rest - 4) / 2);
            for (int kind = 0; kind <= 1; kind++) {
                found(house, straight, loop, kind, 2000, 1);
                found(house, loop, straight, kind, 2000, 1);
            }
        }
    }

    /** 5 before a store, 20 behind it, in which it waits or not; times 80. */
    private static void twoThousandStatesWithRows() {
        ProcessorHouse house = house(16, 1);
        int storing = storing(house, 4, 9);
        int eighty = evenLoop(house, 38);
        found(house, storing, eighty, 1, 2000, 1);
        found(house, eighty, storing, 1, 2000, 1);
        found(house, storing, eighty, 0, 15 * 80, 1);
    }

    private static void oneStateMore() {
        // 3 times 667, 23 times 87, 2 times 1001 and so 2002.
        int[][] statesAndRounds = {{3, 332}, {23, 42}, {2, 499}};
        for (int[] size : statesAndRounds) {
            ProcessorHouse house = house(16, 1);
            int straight = straight(house, size[0] - 1);
            int loop = loop(house, size[1]);
            for (int kind = 0; kind <= 1; kind++) {
                isTooLarge(house, straight, loop, kind);
                isTooLarge(house, loop, straight, kind);
            }
            int less = loop(house, size[1] - 1);
            found(house, straight, less, 0, size[0] * (1 + 2 * size[1]), 1);
        }
    }

    /** A store alone has 3 states with a row, 2 without one: 3 times 667 is one too many. */
    private static void oneStateMoreWithRows() {
        ProcessorHouse house = house(16, 1);
        int store = storing(house, 0, 0);
        int loop = loop(house, 332);
        isTooLarge(house, store, loop, 1);
        isTooLarge(house, loop, store, 1);
        found(house, store, loop, 0, 2 * 667, 1);
        found(house, store, loop(house, 331), 1, 3 * 665, 1);
    }

    private static void withoutBound() {
        ProcessorHouse house = house(32, 1);
        int counts = program(house, w(0, 0, 0, 0, 1), w(1, 1, 1, 0, 0), w(6, 0, 0, 0, 1));
        isTooLarge(house, counts, counts, 0);
        isTooLarge(house, idle(house), counts, 1);
        // The same words with few bits come back to what they were.
        ProcessorHouse small = house(4, 1);
        int round = program(small, w(0, 0, 0, 0, 1), w(1, 1, 1, 0, 0), w(6, 0, 0, 0, 1));
        found(small, round, idle(small), 0, 2 * 33, 0);
    }

    /** So many stores and nothing else, by what is done and what waits: never more than 2 wait. */
    private static void rowsByTheirStates() {
        for (int stores = 1; stores <= 24; stores++) {
            ProcessorHouse house = house(1, 1);
            int storing = straight(house, 0);
            int alone = 0;
            for (int k = 0; k < stores; k++) {
                house.word(storing, 5, 0, 0, 0, 0);
            }
            for (int done = 0; done <= stores; done++) {
                alone += Math.min(done, 2) + 1;
            }
            int idle = idle(house);
            found(house, storing, idle, 1, 2 * alone, 1);
            found(house, idle, storing, 1, 2 * alone, 1);
            found(house, storing, idle, 0, 2 * (stores + 1), 1);
            if (alone * alone <= 2000) {
                found(house, storing, storing, 1, alone * alone, 1);
            } else {
                isTooLarge(house, storing, storing, 1);
            }
        }
    }

    /** Two stores, then words that are no stores: these are done with 0, 1 or 2 stores that wait. */
    private static void otherWordsGoWithAFullRow() {
        int[][] others = {w(0, 1, 0, 0, 0), w(1, 0, 0, 0, 0), w(2, 0, 0, 0, 0), w(3, 0, 0, 0, 0), w(4, 0, 0, 0, 0),
            w(6, 0, 0, 0, 0), w(7, 0, 0, 0, 0)};
        for (int[] other : others) {
            ProcessorHouse house = house(1, 1);
            int one = program(house, w(5, 0, 0, 0, 0), w(5, 0, 0, 0, 0), other);
            found(house, one, idle(house), 1, 2 * (1 + 2 + 3 + 3), 1);
            found(house, idle(house), one, 1, 2 * (1 + 2 + 3 + 3), 1);
        }
    }

    /** Of five stores at five places none is lost, however long the row was full. */
    private static void storeWaitsForRoom() {
        for (int side = 0; side <= 1; side++) {
            ProcessorHouse house = house(3, 5);
            int stores = house.program(1);
            for (int place = 0; place < 5; place++) {
                house.word(stores, 0, 0, 0, 0, place);
                house.word(stores, 0, 1, 0, 0, place + 1);
                house.word(stores, 5, 0, 0, 1, 0);
            }
            int idle = idle(house);
            int pair = side == 0 ? house.pair(stores, idle, 1) : house.pair(idle, stores, 1);
            CHECK.due("one end", 1, house.explore(pair, 1));
            for (int place = 0; place < 5; place++) {
                CHECK.due("place " + place, place + 1, house.end(pair, 0, 8 + place));
            }
        }
    }

    /** Stores without an end, round and round: a row that is empty again is as it was at first. */
    private static void rowsThatAreEmptyAgain() {
        for (int side = 0; side <= 1; side++) {
            ProcessorHouse house = house(1, 1);
            int idle = idle(house);
            int zeros = program(house, w(0, 0, 0, 0, 1), w(5, 0, 3, 3, 0), w(6, 0, 0, 0, 1));
            // Word 0; words 1 and 2 with 0, 1 or 2 that wait.
            found(house, side == 0 ? zeros : idle, side == 0 ? idle : zeros, 1, 2 * (1 + 2 * 3), 0);
            int ones = program(house, w(0, 0, 0, 0, 1), w(5, 0, 3, 0, 0), w(6, 0, 0, 0, 1));
            // The same with 1 in memory; with 0 there none has gone yet, so that none has to wait at word 1 alone.
            found(house, side == 0 ? ones : idle, side == 0 ? idle : ones, 1, 2 * (1 + 5 + 6), 0);
        }
    }

    /** The store goes between the other one's loads, its own next word comes only behind the other's store. */
    private static void storeGoesBetweenTheOthersWords() {
        int[][] seen = {{0, 0, 0}, {0, 0, 1}, {0, 1, 1}, {1, 0, 0}, {1, 0, 1}, {1, 1, 1}};
        for (int kind = 0; kind <= 1; kind++) {
            ProcessorHouse house = house(1, 2);
            int one = program(house, w(0, 1, 0, 0, 1), w(5, 0, 0, 1, 0), w(4, 2, 1, 0, 0));
            int two = program(house, w(0, 1, 0, 0, 1), w(4, 2, 0, 0, 0), w(4, 3, 0, 0, 0), w(5, 0, 1, 1, 0));
            int pair = house.pair(one, two, kind);
            CHECK.due("ends", seen.length, house.explore(pair, 1));
            for (int k = 0; k < seen.length; k++) {
                endIs(house, pair, k, 0, 1, seen[k][0], 0, 0, 1, seen[k][1], seen[k][2], 1, 1);
            }
            int back = house.pair(two, one, kind);
            CHECK.due("ends", seen.length, house.explore(back, 1));
        }
    }

    /**
     * The first one's store goes while its next word still waits. The second one's third store shows that the first
     * of them has gone, so what was loaded of them says when the first one's words came.
     */
    private static void storeGoesAtAnyTime() {
        ProcessorHouse house = house(2, 2);
        int one = program(house, w(0, 1, 0, 0, 1), w(5, 0, 0, 1, 0), w(4, 2, 1, 0, 0), w(4, 3, 1, 0, 0));
        int two = program(house, w(0, 1, 0, 0, 1), w(5, 0, 1, 1, 0), w(5, 0, 1, 1, 0), w(5, 0, 1, 1, 0),
                w(4, 2, 0, 0, 0), w(4, 3, 0, 0, 0), w(0, 0, 0, 0, 2), w(5, 0, 1, 0, 0));
        int pair = house.pair(one, two, 1);
        boolean seen = false;
        for (int k = 0; k < house.explore(pair, 1); k++) {
            seen |= house.end(pair, k, 2) == 0 && house.end(pair, k, 6) == 0 && house.end(pair, k, 7) == 1
                    && house.end(pair, k, 3) == 2;
        }
        CHECK.due("it went between two words of its own", 1, seen ? 1 : 0);
    }

    private static void endIs(ProcessorHouse house, int pair, int k, long... due) {
        for (int what = 0; what < due.length; what++) {
            int asked = what;
            CHECK.answers("end " + k + ", " + what, due[what], () -> house.end(pair, k, asked));
        }
    }

    /** Stores 5 at place x, then 6 at place y, then loads from place z: by both kinds the same. */
    private static void loadsFromTheRow() {
        for (int c = 0; c < 27; c++) {
            int x = c / 9;
            int y = c / 3 % 3;
            int z = c % 3;
            ProcessorHouse house = house(4, 3);
            int one = program(house, w(0, 0, 0, 0, x), w(0, 1, 0, 0, 5), w(5, 0, 0, 1, 0), w(0, 0, 0, 0, y),
                    w(0, 1, 0, 0, 6), w(5, 0, 0, 1, 0), w(0, 0, 0, 0, z), w(4, 3, 0, 0, 0));
            long loaded = z == y ? 6 : z == x ? 5 : 0;
            long[] due = {z, 6, 0, loaded, 0, 0, 0, 0, 0, 0, 0};
            due[8 + x] = 5;
            due[8 + y] = 6;
            for (int kind = 0; kind <= 1; kind++) {
                int pair = house.pair(one, idle(house), kind);
                CHECK.due("one end", 1, house.explore(pair, 1));
                endIs(house, pair, 0, due);
            }
        }
    }

    /** Each stores 1 at a place of its own and loads the other's: both may miss it only if stores wait. */
    private static void loadsOfTheOther() {
        ProcessorHouse house = house(1, 2);
        int one = program(house, w(0, 1, 0, 0, 1), w(5, 0, 0, 1, 0), w(4, 3, 1, 0, 0));
        int two = program(house, w(0, 1, 0, 0, 1), w(5, 0, 1, 1, 0), w(4, 3, 0, 0, 0));
        int atOnce = house.pair(one, two, 0);
        int waits = house.pair(one, two, 1);
        CHECK.due("ends", 3, house.explore(atOnce, 1));
        endIs(house, atOnce, 0, 0, 1, 0, 0, 0, 1, 0, 1, 1, 1);
        endIs(house, atOnce, 1, 0, 1, 0, 1, 0, 1, 0, 0, 1, 1);
        endIs(house, atOnce, 2, 0, 1, 0, 1, 0, 1, 0, 1, 1, 1);
        CHECK.due("ends with rows", 4, house.explore(waits, 1));
        endIs(house, waits, 0, 0, 1, 0, 0, 0, 1, 0, 0, 1, 1);
        endIs(house, waits, 1, 0, 1, 0, 0, 0, 1, 0, 1, 1, 1);
        endIs(house, waits, 2, 0, 1, 0, 1, 0, 1, 0, 0, 1, 1);
        endIs(house, waits, 3, 0, 1, 0, 1, 0, 1, 0, 1, 1, 1);
    }

    /** 1, then 2 at one place: 2 stays there in the end, by both kinds. */
    private static void firstOfTheRowGoesFirst() {
        for (int kind = 0; kind <= 1; kind++) {
            ProcessorHouse house = house(2, 1);
            int one = program(house, w(0, 1, 0, 0, 1), w(0, 2, 0, 0, 2), w(5, 0, 0, 1, 0), w(5, 0, 0, 2, 0));
            int looks = program(house, w(4, 1, 0, 0, 0), w(4, 2, 0, 0, 0));
            int pair = house.pair(one, looks, kind);
            // What is looked at twice never goes back: 00, 01, 02, 11, 12, 22.
            CHECK.due("ends", 6, house.explore(pair, 1));
            int[][] seen = {{0, 0}, {0, 1}, {0, 2}, {1, 1}, {1, 2}, {2, 2}};
            for (int k = 0; k < seen.length; k++) {
                endIs(house, pair, k, 0, 1, 2, 0, 0, seen[k][0], seen[k][1], 0, 2);
            }
        }
    }

    /** Both have ended while a store waits: no end yet, and a step goes from there. */
    private static void rowsEmptyBehindTheEnd() {
        ProcessorHouse house = house(1, 1);
        int one = program(house, w(0, 1, 0, 0, 1), w(5, 0, 0, 1, 0), w(7, 0, 0, 0, 0));
        int pair = house.pair(one, idle(house), 1);
        // Next words 0, 1, 2 with a store or without, ended with or without; twice for the idle one.
        CHECK.due("states", 2 * 6, house.explore(pair, 0));
        CHECK.due("the one end", 1, house.explore(pair, 1));
        endIs(house, pair, 0, 0, 1, 0, 0, 0, 0, 0, 0, 1);
        CHECK.thrown(house, IndexOutOfBoundsException.class, "no end with a store that waits",
                () -> house.end(pair, 1, 8));
        // Both wait behind their ends; either store may be the last one.
        int two = program(house, w(5, 0, 0, 1, 0));
        int both = house.pair(one, two, 1);
        CHECK.due("ends", 2, house.explore(both, 1));
        endIs(house, both, 0, 0, 1, 0, 0, 0, 0, 0, 0, 0);
        endIs(house, both, 1, 0, 1, 0, 0, 0, 0, 0, 0, 1);
    }

    private static void nothingWaitsInKindZero() {
        ProcessorHouse house = house(1, 1);
        int one = program(house, w(0, 1, 0, 0, 1), w(5, 0, 0, 1, 0));
        found(house, one, idle(house), 0, 2 * 3, 1);
        found(house, one, idle(house), 1, 2 * 4, 1);
    }

    /** By STOP at word 1 or behind the last word, the numbers being the same: one end. */
    private static void endedHasNoNextWord() {
        ProcessorHouse house = house(1, 1);
        // Loads, goes to word 3 if it was 1, else to STOP; at word 3 the register is 0 again.
        int one = program(house, w(4, 0, 1, 0, 0), w(6, 0, 0, 0, 3), w(7, 0, 0, 0, 0), w(0, 0, 0, 0, 0));
        int two = program(house, w(0, 1, 0, 0, 1), w(5, 0, 0, 1, 0));
        int pair = house.pair(one, two, 0);
        CHECK.due("one end", 1, house.explore(pair, 1));
        endIs(house, pair, 0, 0, 0, 0, 0, 0, 1, 0, 0, 1);
        // Of one: 0, 1 with 0 or 1, 2, 3, ended. Of two: 0, 1, ended; a 1 is seen only when two has ended.
        CHECK.due("states", 3 + 3 + 1 + 3 + 1 + 3, house.explore(pair, 0));
    }

    /** Many ways come to the same end, which is told once. */
    private static void endsAreToldOnce() {
        ProcessorHouse house = house(8, 1);
        int straight = straight(house, 24);
        int pair = house.pair(straight, straight, 1);
        CHECK.due("one end", 1, house.explore(pair, 1));
        CHECK.thrown(house, IndexOutOfBoundsException.class, "end 1", () -> house.end(pair, 1, 0));
        int one = program(house, w(0, 1, 0, 0, 3), w(5, 0, 0, 1, 0));
        int same = program(house, w(0, 1, 0, 0, 3), w(5, 0, 0, 1, 0));
        int race = house.pair(one, same, 1);
        CHECK.due("one end, whoever stores last", 1, house.explore(race, 1));
        endIs(house, race, 0, 0, 3, 0, 0, 0, 3, 0, 0, 3);
    }

    /** Two ends, 0 and 1 in the one number, 1 and 0 in the other: the one that comes before says which is told first. */
    private static void inOrder(ProcessorHouse house, int pair, int before, int behind) {
        CHECK.due("ends", 2, house.explore(pair, 1));
        for (int k = 0; k <= 1; k++) {
            int end = k;
            CHECK.answers("end " + k + ", " + before, k, () -> house.end(pair, end, before));
            CHECK.answers("end " + k + ", " + behind, 1 - k, () -> house.end(pair, end, behind));
        }
    }

    /** Stores 1 at place 0: who loads it before has 0, who loads it behind has 1. */
    private static int storesOne(ProcessorHouse house) {
        return program(house, w(0, 1, 0, 0, 1), w(5, 0, 0, 1, 0));
    }

    /** Loads into one register, and has 1 less that in a later one. */
    private static void orderOfRegisters() {
        for (int before = 0; before < 4; before++) {
            for (int behind = before + 1; behind < 4; behind++) {
                ProcessorHouse house = house(1, 1);
                int racer = program(house, w(4, before, before, 0, 0), w(0, behind, 0, 0, 1),
                        w(2, behind, behind, before, 0));
                int stores = storesOne(house);
                inOrder(house, house.pair(racer, stores, 0), before, behind);
                inOrder(house, house.pair(stores, racer, 1), 4 + before, 4 + behind);
            }
        }
    }

    /** Loads into one register, and stores 1 less that at place 1. */
    private static void orderOfRegisterAndMemory() {
        for (int before = 0; before < 4; before++) {
            ProcessorHouse house = house(1, 2);
            int one = (before + 1) % 4;
            int less = (before + 2) % 4;
            int racer = program(house, w(4, before, before, 0, 0), w(0, one, 0, 0, 1), w(2, less, one, before, 0),
                    w(5, 0, one, less, 0), w(0, less, 0, 0, 0));
            int stores = storesOne(house);
            inOrder(house, house.pair(racer, stores, 1), before, 9);
            inOrder(house, house.pair(stores, racer, 0), 4 + before, 9);
        }
    }

    /** Each stores at its own place and loads the other's: the first program's registers come first. */
    private static void orderOfBothPrograms() {
        for (int c = 0; c < 16; c++) {
            int of = c / 4;
            int to = c % 4;
            int ofOne = (of + 1) % 4;
            int toOne = (to + 1) % 4;
            ProcessorHouse house = house(1, 2);
            int first = program(house, w(0, ofOne, 0, 0, 1), w(5, 0, of, ofOne, 0), w(4, of, ofOne, 0, 0));
            int second = program(house, w(0, toOne, 0, 0, 1), w(5, 0, toOne, toOne, 0), w(4, to, to, 0, 0));
            int pair = house.pair(first, second, 0);
            CHECK.due("ends", 3, house.explore(pair, 1));
            int[][] due = {{0, 1}, {1, 0}, {1, 1}};
            for (int k = 0; k < 3; k++) {
                CHECK.due("of the first program", due[k][0], house.end(pair, k, of));
                CHECK.due("of the second program", due[k][1], house.end(pair, k, 4 + to));
            }
        }
    }

    /** Loads what the other one may have stored; stores it at one place, and 1 less that at a later one. */
    private static void orderOfPlaces() {
        for (int before = 0; before < 8; before++) {
            for (int behind = before + 1; behind < 8; behind++) {
                int race = 0;
                while (race == before || race == behind) {
                    race++;
                }
                ProcessorHouse house = house(3, 8);
                int racer = program(house, w(0, 0, 0, 0, race), w(4, 1, 0, 0, 0), w(0, 0, 0, 0, before),
                        w(5, 0, 0, 1, 0), w(0, 2, 0, 0, 1), w(2, 2, 2, 1, 0), w(0, 0, 0, 0, behind), w(5, 0, 0, 2, 0),
                        w(0, 1, 0, 0, 0), w(0, 2, 0, 0, 0));
                int stores = program(house, w(0, 0, 0, 0, race), w(0, 1, 0, 0, 1), w(5, 0, 0, 1, 0));
                inOrder(house, house.pair(racer, stores, 0), 8 + before, 8 + behind);
                inOrder(house, house.pair(stores, racer, 1), 8 + before, 8 + behind);
            }
        }
    }

    /** Loads, adds 1, stores: both on registers of their own, one of the two sums may be lost. */
    private static void oneProgramTwice() {
        ProcessorHouse house = house(4, 1);
        int adds = program(house, w(4, 1, 0, 0, 0), w(0, 2, 0, 0, 1), w(1, 1, 1, 2, 0), w(5, 0, 0, 1, 0));
        for (int kind = 0; kind <= 1; kind++) {
            int pair = house.pair(adds, adds, kind);
            CHECK.due("ends", 3, house.explore(pair, 1));
            endIs(house, pair, 0, 0, 1, 1, 0, 0, 1, 1, 0, 1);
            endIs(house, pair, 1, 0, 1, 1, 0, 0, 2, 1, 0, 2);
            endIs(house, pair, 2, 0, 2, 1, 0, 0, 1, 1, 0, 2);
        }
    }
}
