/**
 * Each number that the document bounds: all from two below the least one to two above the greatest one, and the ends
 * of int. What is allowed is answered, what is not is refused. Full and empty things, too.
 */
public final class LimitTest {
    private interface Call {
        long of(int number);
    }

    private static final Check CHECK = new Check();
    private static final int[] FAR = {Integer.MIN_VALUE, Integer.MIN_VALUE + 1, -1000, 1000000, Integer.MAX_VALUE - 1,
        Integer.MAX_VALUE};

    public static void main(String[] args) {
        bitsAndPlaces();
        opsAndRegisters();
        wordsOfAProgram();
        steps();
        coreNumbers();
        cycles();
        statesOfBoth();
        numbersOfBoth();
        kindsOfPairs();
        whatsOfPairs();
        endsOfPairs();
        counts();
        kinds();
        sixtyByEachCall();
        sixtiethIsWhole();
        handlesGoUp();
        CHECK.done();
    }

    private static ProcessorHouse house(int bits, int places) {
        ProcessorHouse house = new ProcessorHouse();
        house.machine(bits, places);
        house.program(1);
        return house;
    }

    /** 1 machine, 2 program (STOP), 3 run, 4 core, 5 sim, 6 pair. */
    private static ProcessorHouse ofEachKind(int places) {
        ProcessorHouse house = house(4, places);
        house.word(2, 7, 0, 0, 0, 0);
        house.run(2);
        house.core(1, 1, 0, 0, 0);
        house.sim(4, 2);
        house.pair(2, 2, 1);
        return house;
    }

    /** Answers from least to most, and IllegalArgumentException elsewhere. */
    private static void only(String name, int least, int most, Call call) {
        only(name, least, most, IllegalArgumentException.class, call);
    }

    private static void only(String name, int least, int most, Class<? extends RuntimeException> other, Call call) {
        for (int number = least - 2; number <= most + 2; number++) {
            allowed(name + " " + number, least <= number && number <= most, other, call, number);
        }
        for (int number : FAR) {
            allowed(name + " " + number, false, other, call, number);
        }
    }

    private static void allowed(String name, boolean due, Class<?> other, Call call, int number) {
        String got;
        try {
            call.of(number);
            got = "an answer";
        } catch (RuntimeException e) {
            got = e.getClass().getName();
        }
        String want = due ? "an answer" : other.getName();
        if (!got.equals(want)) {
            CHECK.tell(name + ": " + got + ", due is " + want);
        }
    }

    private static void bitsAndPlaces() {
        for (int other = 1; other <= 8; other++) {
            int good = other;
            only("bits", 1, 32, n -> new ProcessorHouse().machine(n, good));
            only("places", 1, 8, n -> new ProcessorHouse().machine(4 * good, n));
        }
    }

    private static void opsAndRegisters() {
        only("op", 0, 7, n -> house(8, 4).word(2, n, 1, 2, 3, 0));
        for (int op = 0; op <= 7; op++) {
            int good = op;
            // All three have to be registers, also where the op has no use for them.
            only("d of op " + op, 0, 3, n -> house(8, 4).word(2, good, n, 0, 3, 0));
            only("a of op " + op, 0, 3, n -> house(8, 4).word(2, good, 3, n, 0, 0));
            only("b of op " + op, 0, 3, n -> house(8, 4).word(2, good, 0, 3, n, 0));
            for (int n : FAR) {
                CHECK.answers("n may be all", 1, () -> house(8, 4).word(2, good, 0, 0, 0, n));
            }
        }
    }

    private static void wordsOfAProgram() {
        for (int op = 0; op <= 7; op++) {
            ProcessorHouse house = house(8, 4);
            int good = op;
            for (int k = 1; k <= 24; k++) {
                CHECK.answers("word " + k, k, () -> house.word(2, good, 0, 0, 0, 0));
            }
            for (int k = 25; k <= 27; k++) {
                CHECK.thrown(house, UnsupportedOperationException.class, "word " + k,
                        () -> house.word(2, good, 0, 0, 0, 0));
            }
            house.program(1);
            CHECK.answers("a first word of another program", 1, () -> house.word(3, good, 0, 0, 0, 0));
            CHECK.answers("a full one can be run", 4, () -> house.run(2));
        }
    }

    private static void steps() {
        only("steps", 1, 2000, n -> ofEachKind(1).step(3, n));
        ProcessorHouse ended = ofEachKind(1);
        ended.step(3, 1);
        only("steps behind the end", 1, 2000, n -> ended.step(3, n));
        ProcessorHouse house = house(8, 1);
        house.word(2, 0, 0, 0, 0, 0);
        house.run(2);
        int sum = 0;
        for (int n : new int[] {1, 2, 1999, 2000}) {
            CHECK.answers("step " + n, n, () -> house.step(3, n));
            sum += n;
            CHECK.due("steps in all", sum, house.state(3, 0));
        }
    }

    private static void coreNumbers() {
        int[][] others = {{1, 0, 0, 0}, {8, 8, 8, 8}, {3, 1, 4, 2}};
        for (int[] c : others) {
            only("length", 1, 8, n -> ofEachKind(1).core(1, n, c[1], c[2], c[3]));
            only("lag", 0, 8, n -> ofEachKind(1).core(1, c[0], n, c[2], c[3]));
            only("load lag", 0, 8, n -> ofEachKind(1).core(1, c[0], c[1], n, c[3]));
            only("penalty", 0, 8, n -> ofEachKind(1).core(1, c[0], c[1], c[2], n));
            ProcessorHouse house = house(4, 1);
            house.core(1, 1, 0, 0, 0);
            only("new length", 1, 8, n -> house.change(3, n, c[1], c[2], c[3]));
            only("new lag", 0, 8, n -> house.change(3, c[0], n, c[2], c[3]));
            only("new load lag", 0, 8, n -> house.change(3, c[0], c[1], n, c[3]));
            only("new penalty", 0, 8, n -> house.change(3, c[0], c[1], c[2], n));
        }
        ProcessorHouse house = house(4, 1);
        house.core(1, 8, 0, 0, 0);
        for (int length = 1; length <= 8; length++) {
            int next = length;
            CHECK.answers("the length before", length == 1 ? 8 : length - 1, () -> house.change(3, next, 0, 0, 0));
        }
    }

    private static void cycles() {
        only("cycles", 1, 2000, n -> ofEachKind(1).cycles(5, n));
        ProcessorHouse ended = ofEachKind(1);
        ended.cycles(5, 2);
        only("cycles behind the end", 1, 2000, n -> ended.cycles(5, n));
        ProcessorHouse house = house(8, 1);
        house.word(2, 0, 0, 0, 0, 0);
        house.core(1, 8, 8, 8, 8);
        house.sim(3, 2);
        int sum = 0;
        for (int n : new int[] {1, 2, 1999, 2000}) {
            CHECK.answers("cycles " + n, n, () -> house.cycles(4, n));
            sum += n;
            CHECK.due("cycles in all", sum, house.state(4, 2));
        }
    }

    private static void statesOfBoth() {
        ProcessorHouse house = ofEachKind(8);
        only("state of a run", 0, 1, n -> house.state(3, n));
        only("state of a sim", 0, 5, n -> house.state(5, n));
        house.step(3, 1);
        house.cycles(5, 2);
        only("state of an ended run", 0, 1, n -> house.state(3, n));
        only("state of an ended sim", 0, 5, n -> house.state(5, n));
    }

    private static void numbersOfBoth() {
        for (int places = 1; places <= 8; places++) {
            ProcessorHouse house = ofEachKind(places);
            only("number of a run, " + places, 0, 3 + places, n -> house.number(3, n));
            only("number of a sim, " + places, 0, 3 + places, n -> house.number(5, n));
        }
    }

    private static void kindsOfPairs() {
        only("kind of a pair", 0, 1, n -> ofEachKind(1).pair(2, 2, n));
    }

    private static void whatsOfPairs() {
        for (int places = 1; places <= 8; places++) {
            ProcessorHouse house = ofEachKind(places);
            only("explore", 0, 2, n -> house.explore(6, n));
            only("what of an end, " + places, 0, 7 + places, n -> house.end(6, 0, n));
        }
    }

    /** Two of them store different numbers at one place: so many ends, each told, and none beside them. */
    private static void endsOfPairs() {
        ProcessorHouse house = ofEachKind(2);
        only("one end", 0, 0, IndexOutOfBoundsException.class, k -> house.end(6, k, 9));
        int one = house.program(1);
        house.word(one, 0, 1, 0, 0, 1);
        house.word(one, 5, 0, 0, 1, 0);
        int two = house.program(1);
        house.word(two, 0, 1, 0, 0, 2);
        house.word(two, 5, 0, 0, 1, 0);
        int pair = house.pair(one, two, 0);
        CHECK.due("two ends", 2, house.explore(pair, 1));
        only("two ends", 0, 1, IndexOutOfBoundsException.class, k -> house.end(pair, k, 0));
        int none = house.program(1);
        house.word(none, 0, 1, 0, 0, 1);
        house.word(none, 6, 0, 1, 0, 1);
        int endless = house.pair(none, none, 1);
        CHECK.due("no end", 0, house.explore(endless, 1));
        only("no end", 0, -1, IndexOutOfBoundsException.class, k -> house.end(endless, k, 0));
    }

    private static void counts() {
        ProcessorHouse house = ofEachKind(1);
        int[] due = {-1, -1, 6, 6, 1, 1, 1, 1, 1, 1, -1, -1};
        for (int k = 0; k < due.length; k++) {
            CHECK.due("count(" + (k - 2) + ")", due[k], house.count(k - 2));
        }
        for (int what : FAR) {
            CHECK.due("count(" + what + ")", -1, house.count(what));
        }
        CHECK.due("rule()", 0, house.rule());
    }

    private static void kinds() {
        ProcessorHouse house = ofEachKind(1);
        for (int handle = -2; handle <= 62; handle++) {
            CHECK.due("kind(" + handle + ")", 1 <= handle && handle <= 6 ? handle : 0, house.kind(handle));
        }
        for (int handle : FAR) {
            CHECK.due("kind(" + handle + ")", 0, house.kind(handle));
        }
        CHECK.due("rule()", 0, house.rule());
    }

    private static long make(ProcessorHouse house, int kind) {
        switch (kind) {
            case 1:
                return house.machine(1, 1);
            case 2:
                return house.program(1);
            case 3:
                return house.run(2);
            case 4:
                return house.core(1, 1, 0, 0, 0);
            case 5:
                return house.sim(4, 2);
            default:
                return house.pair(2, 2, 0);
        }
    }

    /** The 60th handle comes by each call that makes one, the 61st by none. */
    private static void sixtyByEachCall() {
        for (int kind = 1; kind <= 6; kind++) {
            ProcessorHouse house = ofEachKind(1);
            int asked = kind;
            for (int handle = 7; handle <= 60; handle++) {
                CHECK.answers("a thing of kind " + kind, handle, () -> make(house, asked));
            }
            CHECK.due("kind(60)", kind, house.kind(60));
            CHECK.due("count(0)", 60, house.count(0));
            CHECK.due("count(1)", 60, house.count(1));
            CHECK.due("count of the kind", 55, house.count(1 + kind));
            for (int other = 1; other <= 6; other++) {
                int made = other;
                CHECK.refused(house, 6, "a 61st thing, of kind " + other, () -> make(house, made));
            }
            CHECK.due("kind(61)", 0, house.kind(61));
            for (int handle = 60; handle >= 7; handle--) {
                int dropped = handle;
                CHECK.answers("drop(" + handle + ")", kind, () -> house.drop(dropped));
            }
            CHECK.refused(house, 6, "drops give no handle back", () -> make(house, asked));
            CHECK.due("count(0) stays", 60, house.count(0));
            CHECK.due("count(1) does not", 6, house.count(1));
        }
    }

    /** What comes last is as good as the others. */
    private static void sixtiethIsWhole() {
        for (int kind = 1; kind <= 6; kind++) {
            ProcessorHouse house = ofEachKind(1);
            for (int handle = 7; handle < 60; handle++) {
                house.machine(1, 1);
            }
            make(house, kind);
            switch (kind) {
                case 1 -> CHECK.refused(house, 6, "program(60)", () -> house.program(60));
                case 2 -> CHECK.answers("word(60, ..)", 1, () -> house.word(60, 0, 0, 0, 0, 0));
                case 3 -> CHECK.answers("step(60, 1)", 1, () -> house.step(60, 1));
                case 4 -> CHECK.answers("change(60, ..)", 1, () -> house.change(60, 2, 0, 0, 0));
                case 5 -> CHECK.answers("cycles(60, 2)", 2, () -> house.cycles(60, 2));
                default -> CHECK.answers("explore(60, 0)", 4, () -> house.explore(60, 0));
            }
            CHECK.answers("drop(60)", kind, () -> house.drop(60));
            CHECK.refused(house, 1, "drop(60) again", () -> house.drop(60));
        }
    }

    /** What is refused takes no handle, and what was dropped gives none back. */
    private static void handlesGoUp() {
        ProcessorHouse house = new ProcessorHouse();
        for (int handle = 1; handle <= 60; handle++) {
            int next = handle;
            CHECK.thrown(house, IllegalArgumentException.class, "machine(0, 0)", () -> house.machine(0, 0));
            CHECK.refused(house, 1, "program of what has not come", () -> house.program(next));
            CHECK.answers("machine(1, 1)", handle, () -> house.machine(1, 1));
            CHECK.answers("drop", 1, () -> house.drop(next));
        }
        CHECK.refused(house, 6, "a 61st machine", () -> house.machine(1, 1));
        CHECK.due("count(0)", 60, house.count(0));
        CHECK.due("count(1)", 0, house.count(1));
    }
}
