/** Promises 14, 15, 16: pair, explore, end. */
public final class PairTest {
    private static final Check CHECK = new Check();

    public static void main(String[] args) {
        pairs();
        smallest();
        bothEndsAreOne();
        rowOfTwo();
        ownRowFirst();
        storesWaitLong();
        everyPlace();
        messagePassing();
        orderOfEnds();
        endsWithoutSign();
        noEnd();
        wrongWhats();
        atTheLimit();
        overTheLimit();
        onePairAfterTheOther();
        CHECK.done();
    }

    private static ProcessorHouse house(int bits, int places) {
        ProcessorHouse house = new ProcessorHouse();
        house.machine(bits, places);
        return house;
    }

    private static int program(ProcessorHouse house, int[]... words) {
        int program = house.program(1);
        for (int[] w : words) {
            house.word(program, w[0], w[1], w[2], w[3], w[4]);
        }
        return program;
    }

    private static int[] w(int op, int d, int a, int b, int n) {
        return new int[] {op, d, a, b, n};
    }

    private static void found(ProcessorHouse house, int pair, int states, int ends) {
        CHECK.answers("explore(" + pair + ", 0)", states, () -> house.explore(pair, 0));
        CHECK.answers("explore(" + pair + ", 1)", ends, () -> house.explore(pair, 1));
        CHECK.answers("explore(" + pair + ", 2)", 0, () -> house.explore(pair, 2));
    }

    private static void endIs(ProcessorHouse house, int pair, int k, long... due) {
        for (int what = 0; what < due.length; what++) {
            int asked = what;
            CHECK.answers("end(" + pair + ", " + k + ", " + what + ")", due[what], () -> house.end(pair, k, asked));
        }
    }

    private static void pairs() {
        ProcessorHouse house = house(2, 2);
        int one = program(house, w(7, 0, 0, 0, 0));
        int empty = house.program(1);
        CHECK.answers("pair(2, 2, 0)", 4, () -> house.pair(one, one, 0));
        CHECK.answers("pair(2, 2, 1)", 5, () -> house.pair(one, one, 1));
        CHECK.due("kind(5)", 6, house.kind(5));
        for (int kind : new int[] {2, -1, Integer.MAX_VALUE, Integer.MIN_VALUE}) {
            CHECK.thrown(house, IllegalArgumentException.class, "pair(2, 2, " + kind + ")",
                    () -> house.pair(one, one, kind));
            CHECK.refused(house, 5, "pair(2, 3, " + kind + ")", () -> house.pair(one, empty, kind));
        }
        CHECK.refused(house, 5, "pair(3, 2, 0)", () -> house.pair(empty, one, 0));
        CHECK.refused(house, 1, "pair(9, 1, 0)", () -> house.pair(9, 1, 0));
        CHECK.refused(house, 2, "pair(1, 9, 0)", () -> house.pair(1, 9, 0));
        CHECK.refused(house, 1, "pair(2, 9, 0)", () -> house.pair(one, 9, 0));
        CHECK.refused(house, 2, "pair(2, 1, 0)", () -> house.pair(one, 1, 0));
        int machine = house.machine(2, 2);
        int far = house.program(machine);
        CHECK.refused(house, 4, "pair(2, 7, 5), two machines, no words", () -> house.pair(one, far, 5));
        CHECK.refused(house, 4, "pair(3, 7, 0), two machines, no words", () -> house.pair(empty, far, 0));
        for (int handle : new int[] {0, -1, 61, Integer.MAX_VALUE, Integer.MIN_VALUE, 33}) {
            CHECK.refused(house, 1, "explore(" + handle + ", 9)", () -> house.explore(handle, 9));
            CHECK.refused(house, 1, "end(" + handle + ", 9, 99)", () -> house.end(handle, 9, 99));
        }
        for (int handle : new int[] {1, 2}) {
            CHECK.refused(house, 2, "explore(" + handle + ", 9)", () -> house.explore(handle, 9));
            CHECK.refused(house, 2, "end(" + handle + ", 9, 99)", () -> house.end(handle, 9, 99));
        }
        house.drop(4);
        CHECK.refused(house, 1, "explore of a dropped one", () -> house.explore(4, 0));
        CHECK.refused(house, 1, "end of a dropped one", () -> house.end(4, 0, 0));
    }

    private static void smallest() {
        ProcessorHouse house = house(1, 1);
        int one = program(house, w(7, 0, 0, 0, 0));
        found(house, house.pair(one, one, 0), 4, 1);
        found(house, house.pair(one, one, 1), 4, 1);
    }

    /** Behind its last word a program ends, and no run round begins; behind STOP nothing comes. */
    private static void bothEndsAreOne() {
        ProcessorHouse house = house(4, 1);
        int falls = program(house, w(0, 0, 0, 0, 5));
        int pair = house.pair(falls, falls, 0);
        found(house, pair, 4, 1);
        endIs(house, pair, 0, 5, 0, 0, 0, 5, 0, 0, 0, 0);
        // One that skips to its STOP or falls behind it comes to the same state.
        int stops = program(house, w(4, 0, 1, 1, 0), w(6, 0, 0, 0, 3), w(7, 0, 0, 0, 0), w(0, 0, 1, 1, 0));
        int writes = program(house, w(0, 0, 0, 0, 1), w(5, 0, 1, 0, 0), w(5, 0, 1, 1, 0));
        int both = house.pair(stops, writes, 0);
        int back = house.pair(writes, stops, 0);
        CHECK.due("states either way", house.explore(both, 0), house.explore(back, 0));
        CHECK.due("ends", 1, house.explore(both, 1));
        endIs(house, both, 0, 0, 0, 0, 0, 1, 0, 0, 0, 0);
        endIs(house, back, 0, 1, 0, 0, 0, 0, 0, 0, 0, 0);
        int branchBack = program(house, w(0, 0, 0, 0, 1), w(6, 0, 0, 0, 6), w(7, 0, 0, 0, 0), w(7, 0, 0, 0, 0));
        int idle = program(house, w(7, 0, 0, 0, 0));
        // BRANCH to 6 modulo 4: at 0, 1, 2, ended, each with the other one before or behind its STOP.
        found(house, house.pair(branchBack, idle, 0), 8, 1);
    }

    /** Three stores in a row by one program: the third one has room only when one has gone. */
    private static void rowOfTwo() {
        ProcessorHouse house = house(1, 1);
        int three = program(house, w(5, 0, 0, 0, 0), w(5, 0, 0, 0, 0), w(5, 0, 0, 0, 0));
        int idle = program(house, w(7, 0, 0, 0, 0));
        // (done, waiting): 0/0, 1/0..1, 2/0..2, 3/0..2, times the idle one's two.
        found(house, house.pair(three, idle, 1), 2 * 9, 1);
        found(house, house.pair(idle, three, 1), 2 * 9, 1);
        found(house, house.pair(three, idle, 0), 2 * 4, 1);
        found(house, house.pair(three, three, 1), 81, 1);
    }

    private static void ownRowFirst() {
        ProcessorHouse house = house(4, 2);
        // Stores 1, then 2 at place 0; loads 0 and 1: its own latest store there, and memory's number.
        int one = program(house, w(0, 1, 0, 0, 1), w(5, 0, 0, 1, 0), w(0, 2, 0, 0, 2), w(5, 0, 0, 2, 0),
                w(4, 3, 0, 0, 0), w(4, 2, 1, 0, 0));
        int idle = program(house, w(7, 0, 0, 0, 0));
        int pair = house.pair(one, idle, 1);
        CHECK.due("ends", 1, house.explore(pair, 1));
        endIs(house, pair, 0, 0, 1, 0, 2, 0, 0, 0, 0, 2, 0);
        // Another one's waiting stores are not seen; it sees 0, 1 or 2.
        int looks = program(house, w(4, 3, 0, 0, 0));
        int seen = house.pair(one, looks, 1);
        CHECK.due("ends", 3, house.explore(seen, 1));
        for (int k = 0; k < 3; k++) {
            endIs(house, seen, k, 0, 1, 0, 2, 0, 0, 0, k, 2, 0);
        }
        int mirrored = house.pair(looks, one, 1);
        CHECK.due("ends", 3, house.explore(mirrored, 1));
        for (int k = 0; k < 3; k++) {
            endIs(house, mirrored, k, 0, 0, 0, k, 0, 1, 0, 2, 2, 0);
        }
    }

    /** A store may wait while its own program goes on and the other one's later stores go first. */
    private static void storesWaitLong() {
        ProcessorHouse house = house(4, 2);
        int waits = program(house, w(0, 1, 0, 0, 1), w(5, 0, 0, 1, 0), w(4, 2, 1, 0, 0), w(4, 3, 1, 0, 0));
        int hurries = program(house, w(0, 1, 0, 0, 1), w(0, 2, 0, 0, 2), w(5, 0, 1, 1, 0), w(5, 0, 0, 2, 0),
                w(4, 3, 0, 0, 0));
        int pair = house.pair(waits, hurries, 1);
        boolean seen = false;
        for (int k = 0; k < house.explore(pair, 1); k++) {
            // It loaded 0, then 1 from place 1; its store went last, and the other one saw it.
            seen |= house.end(pair, k, 2) == 0 && house.end(pair, k, 3) == 1 && house.end(pair, k, 7) == 1
                    && house.end(pair, k, 8) == 1;
        }
        CHECK.due("a store that waited long", 1, seen ? 1 : 0);
    }

    private static void everyPlace() {
        for (int places = 1; places <= 8; places++) {
            for (int kind = 0; kind <= 1; kind++) {
                ProcessorHouse house = house(8, places);
                int last = program(house, w(0, 1, 0, 0, 4 * places - 1), w(5, 0, 1, 1, 0), w(4, 2, 1, 0, 0));
                int idle = program(house, w(7, 0, 0, 0, 0));
                long number = 4 * places - 1;
                long[] due = new long[8 + places];
                due[1] = number;
                due[2] = number;
                due[7 + places] = number;
                int pair = house.pair(last, idle, kind);
                CHECK.due("ends", 1, house.explore(pair, 1));
                endIs(house, pair, 0, due);
            }
        }
    }

    /** Stores go in their order: who sees the flag sees the number. */
    private static void messagePassing() {
        for (int kind = 0; kind <= 1; kind++) {
            ProcessorHouse house = house(4, 2);
            int tells = program(house, w(0, 1, 0, 0, 1), w(5, 0, 0, 1, 0), w(5, 0, 1, 1, 0));
            int hears = program(house, w(0, 1, 0, 0, 1), w(4, 2, 1, 0, 0), w(4, 3, 0, 0, 0));
            int pair = house.pair(tells, hears, kind);
            CHECK.due("ends", 3, house.explore(pair, 1));
            endIs(house, pair, 0, 0, 1, 0, 0, 0, 1, 0, 0, 1, 1);
            endIs(house, pair, 1, 0, 1, 0, 0, 0, 1, 0, 1, 1, 1);
            endIs(house, pair, 2, 0, 1, 0, 0, 0, 1, 1, 1, 1, 1);
        }
    }

    /** Two stores to one place, each program loads it then: registers come before memory in the order. */
    private static void orderOfEnds() {
        ProcessorHouse house = house(4, 1);
        int nine = program(house, w(0, 1, 0, 0, 9), w(5, 0, 0, 1, 0));
        int ten = program(house, w(0, 1, 0, 0, 10), w(5, 0, 0, 1, 0), w(4, 2, 0, 0, 0));
        int pair = house.pair(nine, ten, 0);
        CHECK.due("ends", 3, house.explore(pair, 1));
        endIs(house, pair, 0, 0, 9, 0, 0, 0, 10, 9, 0, 9);
        endIs(house, pair, 1, 0, 9, 0, 0, 0, 10, 10, 0, 9);
        endIs(house, pair, 2, 0, 9, 0, 0, 0, 10, 10, 0, 10);
        int back = house.pair(ten, nine, 0);
        endIs(house, back, 0, 0, 10, 9, 0, 0, 9, 0, 0, 9);
        endIs(house, back, 1, 0, 10, 10, 0, 0, 9, 0, 0, 9);
        endIs(house, back, 2, 0, 10, 10, 0, 0, 9, 0, 0, 10);
    }

    private static void endsWithoutSign() {
        ProcessorHouse house = house(32, 1);
        int one = program(house, w(0, 1, 0, 0, -1), w(5, 0, 0, 1, 0));
        int two = program(house, w(4, 3, 0, 0, 0));
        int pair = house.pair(one, two, 1);
        CHECK.due("ends", 2, house.explore(pair, 1));
        endIs(house, pair, 0, 0, 4294967295L, 0, 0, 0, 0, 0, 0, 4294967295L);
        endIs(house, pair, 1, 0, 4294967295L, 0, 0, 0, 0, 0, 4294967295L, 4294967295L);
        int high = program(house, w(0, 1, 0, 0, Integer.MIN_VALUE), w(5, 0, 0, 1, 0));
        int low = program(house, w(0, 1, 0, 0, Integer.MAX_VALUE), w(5, 0, 0, 1, 0));
        int race = house.pair(high, low, 0);
        CHECK.due("ends", 2, house.explore(race, 1));
        endIs(house, race, 0, 0, 2147483648L, 0, 0, 0, 2147483647L, 0, 0, 2147483647L);
        endIs(house, race, 1, 0, 2147483648L, 0, 0, 0, 2147483647L, 0, 0, 2147483648L);
    }

    private static void noEnd() {
        ProcessorHouse house = house(4, 1);
        int round = program(house, w(0, 0, 0, 0, 1), w(6, 0, 0, 0, 1));
        int stop = program(house, w(7, 0, 0, 0, 0));
        int pair = house.pair(round, stop, 1);
        found(house, pair, 4, 0);
        CHECK.thrown(house, IndexOutOfBoundsException.class, "end(pair, 0, 0)", () -> house.end(pair, 0, 0));
        CHECK.thrown(house, IllegalArgumentException.class, "end(pair, 0, 9)", () -> house.end(pair, 0, 9));
    }

    private static void wrongWhats() {
        for (int places = 1; places <= 8; places++) {
            ProcessorHouse house = house(4, places);
            int stop = program(house, w(7, 0, 0, 0, 0));
            int pair = house.pair(stop, stop, 0);
            for (int what : new int[] {-1, 3, Integer.MIN_VALUE, Integer.MAX_VALUE}) {
                CHECK.thrown(house, IllegalArgumentException.class, "explore(3, " + what + ")",
                        () -> house.explore(pair, what));
            }
            int behind = 8 + places;
            CHECK.answers("the last place", 0, () -> house.end(pair, 0, behind - 1));
            for (int what : new int[] {-1, behind, Integer.MIN_VALUE, Integer.MAX_VALUE}) {
                CHECK.thrown(house, IllegalArgumentException.class, "end(3, 9, " + what + ")",
                        () -> house.end(pair, 9, what));
            }
            for (int k : new int[] {-1, 1, Integer.MIN_VALUE, Integer.MAX_VALUE}) {
                CHECK.thrown(house, IndexOutOfBoundsException.class, "end(3, " + k + ", 0)",
                        () -> house.end(pair, k, 0));
            }
        }
    }

    /** Words that change nothing but the next word: as many states as words, and one. */
    private static int straight(ProcessorHouse house, int words) {
        int program = house.program(1);
        for (int k = 0; k < words; k++) {
            house.word(program, 0, 0, 0, 0, 0);
        }
        return program;
    }

    /** Goes round so many times: SET 0 n; SET 1 1; SUB 0 0 1; BRANCH 0 to 2. It has 3 + 2n states. */
    private static int loop(ProcessorHouse house, int n) {
        return program(house, w(0, 0, 0, 0, n), w(0, 1, 0, 0, 1), w(2, 0, 0, 1, 0), w(6, 0, 0, 0, 2));
    }

    private static void atTheLimit() {
        ProcessorHouse house = house(16, 1);
        int straight = straight(house, 24);
        int around = loop(house, 11);
        CHECK.due("25 times 25", 625, house.explore(house.pair(straight, straight, 0), 0));
        CHECK.due("25 times 25", 625, house.explore(house.pair(straight, around, 1), 0));
        // 80 times 25 states are just 2000; the loop has an odd number, so a SET stands before it.
        int eighty = program(house, w(0, 3, 0, 0, 1), w(0, 0, 0, 0, 38), w(0, 1, 0, 0, 1), w(2, 0, 0, 1, 0),
                w(6, 0, 0, 0, 3));
        int pair = house.pair(eighty, straight, 0);
        found(house, pair, 2000, 1);
        endIs(house, pair, 0, 0, 1, 0, 1, 0, 0, 0, 0, 0);
        int other = house.pair(straight, eighty, 1);
        found(house, other, 2000, 1);
        endIs(house, other, 0, 0, 0, 0, 0, 0, 1, 0, 1, 0);
    }

    private static void overTheLimit() {
        ProcessorHouse house = house(16, 1);
        // 3 times 667 are 2001 states.
        int over = house.pair(loop(house, 332), straight(house, 2), 0);
        for (int what = 0; what <= 2; what++) {
            int asked = what;
            CHECK.refused(house, 7, "explore(over, " + what + ")", () -> house.explore(over, asked));
        }
        CHECK.refused(house, 7, "end(over, 0, 0)", () -> house.end(over, 0, 0));
        CHECK.refused(house, 7, "end(over, -1, 0)", () -> house.end(over, -1, 0));
        CHECK.refused(house, 3, "drop of its program", () -> house.drop(2));
        CHECK.thrown(house, IllegalArgumentException.class, "end(over, 0, 9)", () -> house.end(over, 0, 9));
        CHECK.thrown(house, IllegalArgumentException.class, "explore(over, 3)", () -> house.explore(over, 3));
        int under = house.pair(loop(house, 331), straight(house, 2), 0);
        found(house, under, 665 * 3, 1);
        CHECK.refused(house, 7, "explore(over, 0) again", () -> house.explore(over, 0));
        int far = house.pair(loop(house, 0), loop(house, 0), 1);
        CHECK.refused(house, 7, "explore(far, 1)", () -> house.explore(far, 1));
        CHECK.answers("drop(over)", 6, () -> house.drop(over));
        CHECK.refused(house, 1, "explore(over, 0), dropped", () -> house.explore(over, 0));
    }

    private static void onePairAfterTheOther() {
        ProcessorHouse house = house(4, 1);
        int nine = program(house, w(0, 1, 0, 0, 9), w(5, 0, 0, 1, 0));
        int ten = program(house, w(0, 1, 0, 0, 10), w(5, 0, 0, 1, 0), w(4, 2, 0, 0, 0));
        int first = house.pair(nine, ten, 0);
        int second = house.pair(ten, nine, 1);
        int third = house.pair(nine, nine, 0);
        for (int round = 0; round < 3; round++) {
            endIs(house, third, 0, 0, 9, 0, 0, 0, 9, 0, 0, 9);
            endIs(house, first, 2, 0, 9, 0, 0, 0, 10, 10, 0, 10);
            CHECK.due("explore(third, 1)", 1, house.explore(third, 1));
            CHECK.due("explore(first, 1)", 3, house.explore(first, 1));
            endIs(house, second, 0, 0, 10, 9, 0, 0, 9, 0, 0, 9);
            CHECK.due("explore(first, 0)", house.explore(house.pair(nine, ten, 0), 0), house.explore(first, 0));
        }
    }
}
