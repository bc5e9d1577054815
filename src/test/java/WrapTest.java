/** All that wraps around: numbers modulo 2 to the power W, places modulo M, words modulo the words. */
public final class WrapTest {
    private static final Check CHECK = new Check();

    public static void main(String[] args) {
        for (int bits = 1; bits <= 32; bits++) {
            sets(bits);
            sums(bits);
        }
        for (int places = 1; places <= 8; places++) {
            stores(places);
            loads(places);
        }
        placesOfGreatNumbers();
        for (int words = 2; words <= 24; words++) {
            behindTheLastWord(words);
            branchTargets(words);
            branchAsLastWord(words);
            stopAsLastWord(words);
        }
        oneWord();
        branchTargetIsNotCut();
        zerosAtFirst();
        CHECK.done();
    }

    private static ProcessorHouse house(int bits, int places, int[]... words) {
        ProcessorHouse house = new ProcessorHouse();
        house.machine(bits, places);
        house.program(1);
        for (int[] w : words) {
            house.word(2, w[0], w[1], w[2], w[3], w[4]);
        }
        return house;
    }

    private static int[] w(int op, int d, int a, int b, int n) {
        return new int[] {op, d, a, b, n};
    }

    /** What a register is behind these words, by a run, a sim and both programs of a pair. */
    private static void registerIs(String name, long due, int bits, int places, int register, int[]... words) {
        ProcessorHouse house = house(bits, places, words);
        house.run(2);
        house.step(3, words.length);
        CHECK.due(name + ", run", due, house.number(3, register));
        house.core(1, 2, 1, 1, 1);
        house.sim(4, 2);
        while (house.state(5, 0) < words.length) {
            house.cycles(5, 1);
        }
        CHECK.due(name + ", sim", due, house.number(5, register));
        CHECK.due(name + ", agrees", 1, house.agrees(5, 3) ? 1 : 0);
        // Alone with one that does nothing, so that the other one's stores do not enter into it.
        int idle = house.program(1);
        house.word(idle, 7, 0, 0, 0, 0);
        for (int kind = 0; kind <= 1; kind++) {
            int first = house.pair(2, idle, kind);
            int second = house.pair(idle, 2, kind);
            CHECK.answers(name + ", first of a pair", due, () -> house.end(first, 0, register));
            CHECK.answers(name + ", second of a pair", due, () -> house.end(second, 0, 4 + register));
        }
    }

    private static void sets(int bits) {
        long modulus = 1L << bits;
        int[] numbers = {0, 1, 2, 3, -1, -2, Integer.MAX_VALUE, Integer.MIN_VALUE, (int) (modulus - 1), (int) modulus,
            (int) (modulus + 1), (int) -modulus, (int) (-modulus - 1), (int) (modulus / 2), (int) (modulus / 2 - 1)};
        for (int n : numbers) {
            long due = ((n % modulus) + modulus) % modulus;
            registerIs("SET " + n + " of " + bits + " bits", due, bits, 1, 3, w(0, 3, 0, 0, n));
        }
    }

    private static void sums(int bits) {
        long most = (1L << bits) - 1;
        int[] greatest = w(0, 0, 0, 0, -1);
        int[] one = w(0, 1, 0, 0, 1);
        String of = " of " + bits + " bits";
        registerIs("greatest and 1" + of, 0, bits, 1, 2, greatest, one, w(1, 2, 0, 1, 0));
        registerIs("greatest and greatest" + of, most - 1, bits, 1, 2, greatest, one, w(1, 2, 0, 0, 0));
        registerIs("0 less 1" + of, most, bits, 1, 2, greatest, one, w(2, 2, 3, 1, 0));
        registerIs("0 less greatest" + of, 1, bits, 1, 2, greatest, one, w(2, 2, 3, 0, 0));
        registerIs("greatest less greatest" + of, 0, bits, 1, 2, greatest, one, w(2, 2, 0, 0, 0));
        registerIs("both, greatest and 1" + of, 1, bits, 1, 2, greatest, one, w(3, 2, 0, 1, 0));
        registerIs("both, greatest and greatest" + of, most, bits, 1, 2, greatest, one, w(3, 2, 0, 0, 0));
        registerIs("both, greatest and 0" + of, 0, bits, 1, 2, greatest, one, w(3, 2, 0, 3, 0));
    }

    /** A store at each number up to three times the places is in one place, and in no other. */
    private static void stores(int places) {
        for (int at = 0; at <= 3 * places; at++) {
            ProcessorHouse house = house(8, places, w(0, 0, 0, 0, at), w(0, 1, 0, 0, 99), w(5, 2, 0, 1, 0),
                    w(7, 0, 0, 0, 0));
            house.run(2);
            house.step(3, 4);
            house.core(1, 1, 0, 0, 0);
            house.sim(4, 2);
            house.cycles(5, 2000);
            int idle = house.program(1);
            house.word(idle, 7, 0, 0, 0, 0);
            int atOnce = house.pair(2, idle, 0);
            int waits = house.pair(idle, 2, 1);
            for (int place = 0; place < places; place++) {
                int asked = place;
                long due = place == at % places ? 99 : 0;
                String name = "a store at " + at + ", place " + place + " of " + places;
                CHECK.due(name + ", run", due, house.number(3, 4 + place));
                CHECK.due(name + ", sim", due, house.number(5, 4 + place));
                CHECK.answers(name + ", pair", due, () -> house.end(atOnce, 0, 8 + asked));
                CHECK.answers(name + ", pair with rows", due, () -> house.end(waits, 0, 8 + asked));
            }
            CHECK.due("the place's register stays", at, house.number(3, 0));
        }
    }

    /** Each place has a number of its own; a load at each number up to three times the places takes one of them. */
    private static void loads(int places) {
        for (int at = 0; at <= 3 * places; at++) {
            int[][] words = new int[places * 2 + 4][];
            int filled = 0;
            for (int place = 0; place < places; place++) {
                // What is stored is, modulo the places, the place itself.
                words[filled++] = w(0, 0, 0, 0, place + places * 10);
                words[filled++] = w(5, 0, 0, 0, 0);
            }
            words[filled++] = w(0, 1, 0, 0, at);
            words[filled++] = w(4, 2, 1, 0, 0);
            words[filled++] = w(0, 1, 0, 0, 0);
            words[filled] = w(7, 0, 0, 0, 0);
            registerIs("a load at " + at + " of " + places, at % places + places * 10, 8, places, 2, words);
        }
    }

    private static void placesOfGreatNumbers() {
        for (int places = 1; places <= 8; places++) {
            for (int at : new int[] {-1, Integer.MIN_VALUE, Integer.MAX_VALUE, -2}) {
                long number = at & 0xFFFFFFFFL;
                int place = (int) (number % places);
                ProcessorHouse house = house(32, places, w(0, 0, 0, 0, at), w(5, 0, 0, 0, 0), w(4, 1, 0, 0, 0));
                house.run(2);
                house.step(3, 3);
                CHECK.due("place " + place + " of " + places, number, house.number(3, 4 + place));
                CHECK.due("loaded from there", number, house.number(3, 1));
                int pair = house.pair(2, 2, 1);
                CHECK.answers("place of a pair", number, () -> house.end(pair, 0, 8 + place));
                CHECK.answers("loaded in a pair", number, () -> house.end(pair, 0, 1));
            }
        }
    }

    /** ADD 1 1 0 as word 0, SET 0 1 as the last word: it counts how often word 0 came behind the last one. */
    private static void behindTheLastWord(int words) {
        ProcessorHouse house = house(32, 1, w(1, 1, 1, 0, 0));
        for (int k = 1; k < words - 1; k++) {
            house.word(2, 0, 2, 0, 0, k);
        }
        house.word(2, 0, 0, 0, 0, 1);
        house.run(2);
        for (int round = 0; round < 5; round++) {
            house.step(3, words);
            CHECK.due("before word 0 of " + words, round, house.number(3, 1));
        }
        house.step(3, 1);
        CHECK.due("behind word 0 of " + words, 5, house.number(3, 1));
        CHECK.due("it has not ended", 0, house.state(3, 1));
        house.core(1, 1, 0, 0, 0);
        house.sim(4, 2);
        house.cycles(5, 5 * words + 2);
        CHECK.due("a sim goes on at word 0 of " + words, 5, house.number(5, 1));
        int idle = house.program(1);
        house.word(idle, 7, 0, 0, 0, 0);
        CHECK.due("in a pair it ends there", 2 * (words + 1), house.explore(house.pair(2, idle, 0), 0));
    }

    /** SET 0 1; BRANCH to n; SET 1 k as word k. Which word comes behind the BRANCH. */
    private static long target(int words, int n) {
        ProcessorHouse house = house(32, 1, w(0, 0, 0, 0, 1), w(6, 0, 0, 0, n));
        for (int k = 2; k < words; k++) {
            house.word(2, 0, 1, 0, 0, k);
        }
        house.run(2);
        house.step(3, 3);
        if (house.number(3, 1) > 1) {
            return house.number(3, 1);
        }
        // Word 0 or 1: if the BRANCH came again it has gone again, and costs its penalty a second time.
        house.core(1, 1, 0, 0, 1);
        house.sim(4, 2);
        while (house.state(5, 3) < 4) {
            house.cycles(5, 1);
        }
        return house.state(5, 4) - 1;
    }

    private static void branchTargets(int words) {
        for (int n = -2 * words - 1; n <= 2 * words + 1; n++) {
            CHECK.due("BRANCH to " + n + " of " + words, (n + 3 * words) % words, target(words, n));
        }
        long most = Integer.MAX_VALUE;
        CHECK.due("BRANCH to the greatest of " + words, most % words, target(words, Integer.MAX_VALUE));
        long least = Integer.MIN_VALUE;
        CHECK.due("BRANCH to the least of " + words, (least % words + words) % words,
                target(words, Integer.MIN_VALUE));
    }

    /** A BRANCH that does not go, as the last word: 0 comes for a run, the end in a pair. */
    private static void branchAsLastWord(int words) {
        ProcessorHouse house = house(8, 1);
        for (int k = 0; k < words - 1; k++) {
            house.word(2, 1, 1, 1, 2, 0);
        }
        house.word(2, 6, 0, 3, 0, 1);
        house.run(2);
        CHECK.answers("round and round", 2000, () -> house.step(3, 2000));
        int pair = house.pair(2, 2, 0);
        CHECK.answers("states", (words + 1) * (words + 1), () -> house.explore(pair, 0));
        CHECK.answers("ends", 1, () -> house.explore(pair, 1));
    }

    private static void stopAsLastWord(int words) {
        ProcessorHouse house = house(8, 1);
        for (int k = 0; k < words - 1; k++) {
            house.word(2, 0, 1, 0, 0, k);
        }
        house.word(2, 7, 0, 0, 0, 0);
        house.run(2);
        CHECK.answers("all but STOP", words - 1, () -> house.step(3, words - 1));
        CHECK.due("not ended", 0, house.state(3, 1));
        CHECK.answers("STOP is the last step", 1, () -> house.step(3, 2000));
        CHECK.due("ended", 1, house.state(3, 1));
        CHECK.answers("nothing behind it", 0, () -> house.step(3, 1));
        CHECK.due("steps", words, house.state(3, 0));
    }

    private static void oneWord() {
        ProcessorHouse house = house(8, 1, w(0, 0, 0, 0, 1));
        house.run(2);
        CHECK.answers("behind the one word comes it again", 2000, () -> house.step(3, 2000));
        ProcessorHouse branch = house(8, 1, w(6, 0, 0, 0, -1));
        branch.run(2);
        CHECK.answers("a BRANCH alone", 2000, () -> branch.step(3, 2000));
        ProcessorHouse stop = house(8, 1, w(7, 0, 0, 0, 0));
        stop.run(2);
        CHECK.answers("a STOP alone", 1, () -> stop.step(3, 2000));
    }

    /** With 1 bit, n of a BRANCH is still one of 24 words: it is modulo the words alone. */
    private static void branchTargetIsNotCut() {
        for (int bits : new int[] {1, 2, 3, 4, 5, 31, 32}) {
            for (int n = -25; n <= 48; n++) {
                ProcessorHouse house = house(bits, 1, w(0, 0, 0, 0, 1), w(6, 0, 0, 0, n));
                for (int k = 2; k < 24; k++) {
                    house.word(2, 7, 0, 0, 0, 0);
                }
                int to = Math.floorMod(n, 24);
                house.run(2);
                // Words 2 to 23 are STOPs, 0 and 1 go round.
                CHECK.answers("BRANCH to " + n + " with " + bits + " bits", to < 2 ? 2000 : 3,
                        () -> house.step(3, 2000));
            }
        }
        ProcessorHouse house = house(1, 1, w(0, 0, 0, 0, 1), w(6, 0, 0, 0, 22));
        for (int k = 2; k < 24; k++) {
            house.word(2, 0, 1 + k % 2, 0, 0, k == 22 ? 1 : 0);
        }
        house.run(2);
        house.step(3, 3);
        CHECK.due("word 22 of 24", 1, house.number(3, 1));
    }

    /** Whatever others have done: a new run, sim or pair has zeros. */
    private static void zerosAtFirst() {
        ProcessorHouse house = house(8, 8, w(0, 0, 0, 0, 7), w(0, 1, 0, 0, 7), w(0, 2, 0, 0, 7), w(0, 3, 0, 0, 7),
                w(5, 0, 0, 1, 0));
        house.run(2);
        house.step(3, 2000);
        house.core(1, 1, 0, 0, 0);
        house.sim(4, 2);
        house.cycles(5, 2000);
        house.run(2);
        house.sim(4, 2);
        for (int what = 0; what < 12; what++) {
            CHECK.due("number(6, " + what + ")", 0, house.number(6, what));
            CHECK.due("number(7, " + what + ")", 0, house.number(7, what));
        }
        for (int what = 0; what <= 1; what++) {
            CHECK.due("state(6, " + what + ")", 0, house.state(6, what));
        }
        for (int what = 0; what <= 5; what++) {
            CHECK.due("state(7, " + what + ")", 0, house.state(7, what));
        }
        house.program(1);
        house.word(8, 4, 3, 2, 2, 0);
        house.pair(8, 8, 0);
        house.pair(8, 8, 1);
        for (int what = 0; what < 16; what++) {
            CHECK.due("end(9, 0, " + what + ")", 0, house.end(9, 0, what));
            CHECK.due("end(10, 0, " + what + ")", 0, house.end(10, 0, what));
        }
    }
}
