/**
 * Each call that is refused, in a house where much has been done: what it throws, in which order the reasons go, what
 * rule() tells, and that nothing else has changed. For the last one a twin house goes on without the refused call, and
 * all that can be asked of both must be the same.
 */
public final class RefusalTest {
    private interface Call {
        long on(ProcessorHouse house);
    }

    private interface CallAt {
        long on(ProcessorHouse house, int handle);
    }

    private static final Check CHECK = new Check();
    private static final int LEAST = Integer.MIN_VALUE;
    private static final int MOST = Integer.MAX_VALUE;

    // What the handles of house() are.
    private static final int MACHINE = 1;
    private static final int PROGRAM = 2;
    private static final int SECOND = 3;
    private static final int CORE = 4;
    private static final int RUN = 5;
    private static final int SIM = 6;
    private static final int PAIR = 7;
    private static final int EMPTY = 8;
    private static final int OTHER_MACHINE = 9;
    private static final int OTHER_PROGRAM = 10;
    private static final int OTHER_EMPTY = 11;
    private static final int OTHER_CORE = 12;
    private static final int FULL = 13;
    private static final int TOO_LARGE = 14;
    private static final int FREE_CORE = 15;
    private static final int LAST_LIVING = 15;
    private static final int LAST = 21;

    /** 16 to 21 were dropped, one of each kind; 22 and 60 have not come. */
    private static final int[] NO_HANDLES = {0, -1, 61, 60, 22, 16, 17, 18, 19, 20, 21, LEAST, MOST};
    private static final int[][] NO_CORES = {{0, 0, 0, 0}, {9, 0, 0, 0}, {1, -1, 0, 0}, {1, 9, 0, 0}, {1, 0, -1, 0},
        {1, 0, 9, 0}, {1, 0, 0, -1}, {1, 0, 0, 9}, {LEAST, 1, 1, 1}, {8, MOST, 8, 8}, {8, 8, LEAST, 8},
        {8, 8, 8, MOST}};
    private static final int[][] NO_WORDS = {{-1, 0, 0, 0}, {8, 0, 0, 0}, {0, -1, 0, 0}, {0, 4, 0, 0}, {0, 0, -1, 0},
        {0, 0, 4, 0}, {0, 0, 0, -1}, {0, 0, 0, 4}, {LEAST, 3, 3, 3}, {7, MOST, 3, 3}, {7, 3, LEAST, 3},
        {7, 3, 3, MOST}};

    private static boolean isFull;
    private static boolean afterRefusal;

    public static void main(String[] args) {
        for (int variant = 0; variant < 4; variant++) {
            isFull = variant % 2 == 1;
            afterRefusal = variant >= 2;
            handlesThatAreNone();
            usedOnes();
            twoMachines();
            noWords();
            tooLarge();
            noSuchMachine();
            noSuchWord();
            noSuchCore();
            noSuchNumbers();
            noSuchOfAPair();
        }
        isFull = true;
        noHandleLeft();
        CHECK.done();
    }

    private static void words(ProcessorHouse house, int program, int[]... words) {
        for (int[] w : words) {
            house.word(program, w[0], w[1], w[2], w[3], w[4]);
        }
    }

    private static ProcessorHouse house() {
        ProcessorHouse house = new ProcessorHouse();
        house.machine(3, 3);
        house.program(MACHINE);
        words(house, PROGRAM, new int[][] {{0, 0, 0, 0, 1}, {1, 1, 1, 0, 0}, {5, 0, 1, 1, 0}, {4, 2, 0, 0, 0},
            {6, 0, 1, 0, 1}, {7, 0, 0, 0, 0}});
        house.program(MACHINE);
        words(house, SECOND, new int[][] {{4, 3, 0, 0, 0}, {7, 0, 0, 0, 0}});
        house.core(MACHINE, 3, 1, 2, 2);
        house.run(PROGRAM);
        house.step(RUN, 8);
        house.sim(CORE, PROGRAM);
        house.cycles(SIM, 17);
        house.pair(PROGRAM, SECOND, 1);
        house.program(MACHINE);
        house.machine(16, 2);
        house.program(OTHER_MACHINE);
        words(house, OTHER_PROGRAM, new int[][] {{0, 0, 0, 0, 1}, {1, 1, 1, 0, 0}, {6, 0, 0, 0, 1}});
        house.program(OTHER_MACHINE);
        house.core(OTHER_MACHINE, 2, 2, 3, 1);
        house.program(MACHINE);
        for (int k = 0; k < 24; k++) {
            house.word(FULL, 0, k % 4, 0, 0, k);
        }
        house.pair(OTHER_PROGRAM, OTHER_PROGRAM, 0);
        house.core(MACHINE, 5, 4, 3, 2);
        dropped(house);
        for (int handle = LAST + 1; isFull && handle <= 60; handle++) {
            house.machine(1, 1);
        }
        if (afterRefusal) {
            refusedBefore(house);
        }
        return house;
    }

    /** The first four in the order of their kinds, then a sim and a pair of others that live. */
    private static void dropped(ProcessorHouse house) {
        int machine = house.machine(1, 1);
        int program = house.program(MACHINE);
        int[] all = {machine, program, house.run(PROGRAM), house.core(MACHINE, 1, 0, 0, 0), house.sim(CORE, PROGRAM),
            house.pair(PROGRAM, PROGRAM, 0)};
        for (int handle : all) {
            house.drop(handle);
        }
    }

    /** Rule 3, so that a rule stands there which an exception of another kind must leave. */
    private static void refusedBefore(ProcessorHouse house) {
        try {
            house.drop(MACHINE);
        } catch (IllegalStateException e) {
            return;
        }
        CHECK.tell("drop of a used machine was not refused");
    }

    private static void refused(int rule, String name, Call call) {
        outcome("IllegalStateException", rule, name, call);
    }

    private static void thrown(Class<? extends RuntimeException> want, String name, Call call) {
        outcome(want.getSimpleName(), afterRefusal ? 3 : 0, name, call);
    }

    private static void outcome(String want, int rule, String name, Call call) {
        ProcessorHouse house = house();
        String got;
        try {
            got = "" + call.on(house);
        } catch (RuntimeException e) {
            got = e.getClass().getSimpleName();
        }
        if (!got.equals(want)) {
            CHECK.tell(name + " answered " + got + ", due is " + want);
        }
        CHECK.due(name + ", then rule()", rule, house.rule());
        if (!seen(house).equals(twin())) {
            CHECK.tell(name + " was refused and changed something");
        }
    }

    private static final String[] TWINS = new String[2];

    /** All that is seen of a house without the refused call; the rule of before does not enter into it. */
    private static String twin() {
        int which = isFull ? 1 : 0;
        if (TWINS[which] == null) {
            TWINS[which] = seen(house());
        }
        return TWINS[which];
    }

    /** All answers of all that can be asked; the house is used up by it. */
    private static String seen(ProcessorHouse house) {
        StringBuilder log = new StringBuilder();
        shown(house, log);
        ask(log, house, () -> house.step(RUN, 3));
        ask(log, house, () -> house.cycles(SIM, 5));
        shown(house, log);
        ask(log, house, () -> house.agrees(SIM, RUN) ? 1 : 0);
        shown(house, log);
        pairs(house, log);
        for (int program : new int[] {PROGRAM, SECOND, EMPTY, OTHER_PROGRAM, OTHER_EMPTY, FULL}) {
            ask(log, house, () -> house.word(program, 0, 1, 0, 0, 2));
            ask(log, house, () -> house.run(program));
            ask(log, house, () -> house.step(house.count(0), 70));
        }
        int[][] simulated = {{CORE, PROGRAM}, {OTHER_CORE, OTHER_PROGRAM}, {FREE_CORE, PROGRAM}};
        for (int[] sim : simulated) {
            ask(log, house, () -> house.sim(sim[0], sim[1]));
            ask(log, house, () -> house.cycles(house.count(0), 61));
        }
        shown(house, log);
        ask(log, house, () -> house.change(OTHER_CORE, 1, 0, 0, 0));
        for (int handle = 60; handle >= 1; handle--) {
            int dropped = handle;
            ask(log, house, () -> house.drop(dropped));
        }
        shown(house, log);
        return log.toString();
    }

    private static void ask(StringBuilder log, ProcessorHouse house, Check.Call call) {
        try {
            log.append(call.answer());
        } catch (IllegalStateException e) {
            log.append("rule").append(house.rule());
        } catch (RuntimeException e) {
            log.append(e.getClass().getSimpleName());
        }
        log.append(' ');
    }

    private static void shown(ProcessorHouse house, StringBuilder log) {
        for (int what = 0; what <= 7; what++) {
            log.append(house.count(what)).append(' ');
        }
        for (int handle = 1; handle <= 60; handle++) {
            int shown = handle;
            int kind = house.kind(handle);
            log.append('\n').append(kind).append(": ");
            for (int k = 0; (kind == 3 || kind == 5) && k < 8; k++) {
                int what = k;
                ask(log, house, () -> house.state(shown, what));
                ask(log, house, () -> house.number(shown, what));
            }
        }
    }

    private static void pairs(ProcessorHouse house, StringBuilder log) {
        for (int pair : new int[] {PAIR, TOO_LARGE}) {
            for (int k = 0; k <= 2; k++) {
                int what = k;
                ask(log, house, () -> house.explore(pair, what));
            }
            for (int k = 0; k < 90; k++) {
                int end = k / 10;
                int what = k % 10;
                ask(log, house, () -> house.end(pair, end, what));
            }
        }
    }

    /** Rule 1 for what is no handle, rule 2 for one of another kind, before all that comes behind them. */
    private static void wanted(String name, String kinds, CallAt call) {
        for (int handle : NO_HANDLES) {
            // A padded house has machines up to 60.
            boolean comes = isFull && (handle == 22 || handle == 60);
            if (!comes) {
                refused(1, name + " at " + handle, house -> call.on(house, handle));
            }
        }
        ProcessorHouse kindsOf = house();
        for (int handle = 1; handle <= LAST_LIVING; handle++) {
            int living = handle;
            if (kinds.indexOf('0' + kindsOf.kind(handle)) < 0) {
                refused(2, name + " at " + handle, house -> call.on(house, living));
            }
        }
    }

    private static void handlesThatAreNone() {
        wanted("program", "1", (h, at) -> h.program(at));
        wanted("core", "1", (h, at) -> h.core(at, 1, 0, 0, 0));
        wanted("core, none", "1", (h, at) -> h.core(at, 0, 9, 9, 9));
        wanted("word", "2", (h, at) -> h.word(at, 0, 0, 0, 0, 0));
        wanted("word, none", "2", (h, at) -> h.word(at, 8, 4, 4, 4, 0));
        wanted("run", "2", (h, at) -> h.run(at));
        wanted("step", "3", (h, at) -> h.step(at, 1));
        wanted("step, none", "3", (h, at) -> h.step(at, 0));
        wanted("change", "4", (h, at) -> h.change(at, 1, 0, 0, 0));
        wanted("change, none", "4", (h, at) -> h.change(at, 0, 9, 9, 9));
        wanted("cycles", "5", (h, at) -> h.cycles(at, 1));
        wanted("cycles, none", "5", (h, at) -> h.cycles(at, 2001));
        wanted("state", "35", (h, at) -> h.state(at, 0));
        wanted("state, none", "35", (h, at) -> h.state(at, 6));
        wanted("number", "35", (h, at) -> h.number(at, 0));
        wanted("number, none", "35", (h, at) -> h.number(at, -1));
        wanted("explore", "6", (h, at) -> h.explore(at, 0));
        wanted("explore, none", "6", (h, at) -> h.explore(at, 3));
        wanted("end", "6", (h, at) -> h.end(at, 0, 0));
        wanted("end, none", "6", (h, at) -> h.end(at, -1, -1));
        wanted("drop", "123456", (h, at) -> h.drop(at));
        handlesOfTwo();
    }

    /** Of two handles rules 1 and 2 of the first go before those of the second, and both before other rules. */
    private static void handlesOfTwo() {
        int[] seconds = {PROGRAM, EMPTY, OTHER_PROGRAM, MACHINE, 0, 20};
        for (int second : seconds) {
            wanted("sim, first, " + second, "4", (h, at) -> h.sim(at, second));
            wanted("pair, first, " + second, "2", (h, at) -> h.pair(at, second, 2));
        }
        for (int second : new int[] {RUN, SIM, MACHINE, 0, 20}) {
            wanted("agrees, first, " + second, "5", (h, at) -> h.agrees(at, second) ? 1 : 0);
        }
        wanted("sim, second", "2", (h, at) -> h.sim(CORE, at));
        wanted("sim, second, of another machine's core", "2", (h, at) -> h.sim(OTHER_CORE, at));
        wanted("pair, second", "2", (h, at) -> h.pair(PROGRAM, at, 0));
        wanted("pair, second, the first without words", "2", (h, at) -> h.pair(EMPTY, at, 2));
        wanted("agrees, second", "3", (h, at) -> h.agrees(SIM, at) ? 1 : 0);
    }

    private static void usedOnes() {
        for (int handle : new int[] {MACHINE, PROGRAM, SECOND, CORE, OTHER_MACHINE, OTHER_PROGRAM}) {
            refused(3, "drop at " + handle, h -> h.drop(handle));
        }
        for (int program : new int[] {PROGRAM, SECOND, OTHER_PROGRAM}) {
            refused(3, "word at " + program, h -> h.word(program, 7, 0, 0, 0, 0));
            refused(3, "word, none, at " + program, h -> h.word(program, 8, 4, -1, 4, 0));
        }
        refused(3, "change of a used core", h -> h.change(CORE, 1, 0, 0, 0));
        refused(3, "change of a used core, as it is", h -> h.change(CORE, 3, 1, 2, 2));
        for (int[] c : NO_CORES) {
            refused(3, "change of a used core, none", h -> h.change(CORE, c[0], c[1], c[2], c[3]));
        }
    }

    private static void twoMachines() {
        refused(4, "sim, the program of another one", h -> h.sim(CORE, OTHER_PROGRAM));
        refused(4, "sim, the core of another one", h -> h.sim(OTHER_CORE, PROGRAM));
        refused(4, "sim, and no words", h -> h.sim(CORE, OTHER_EMPTY));
        refused(4, "sim, and no words, the other way", h -> h.sim(OTHER_CORE, EMPTY));
        for (int kind = -1; kind <= 2; kind++) {
            int asked = kind;
            refused(4, "pair", h -> h.pair(PROGRAM, OTHER_PROGRAM, asked));
            refused(4, "pair, the other way", h -> h.pair(OTHER_PROGRAM, PROGRAM, asked));
            refused(4, "pair, no words in the second", h -> h.pair(PROGRAM, OTHER_EMPTY, asked));
            refused(4, "pair, no words in the first", h -> h.pair(EMPTY, OTHER_PROGRAM, asked));
            refused(4, "pair, no words at all", h -> h.pair(EMPTY, OTHER_EMPTY, asked));
        }
    }

    private static void noWords() {
        refused(5, "run, no words", h -> h.run(EMPTY));
        refused(5, "sim, no words", h -> h.sim(CORE, EMPTY));
        refused(5, "sim, no words, another machine's own", h -> h.sim(OTHER_CORE, OTHER_EMPTY));
        for (int kind : new int[] {LEAST, -1, 0, 1, 2, MOST}) {
            refused(5, "pair, no words in the first", h -> h.pair(EMPTY, PROGRAM, kind));
            refused(5, "pair, no words in the second", h -> h.pair(PROGRAM, EMPTY, kind));
            refused(5, "pair, no words in both", h -> h.pair(EMPTY, EMPTY, kind));
        }
    }

    private static void tooLarge() {
        for (int what = 0; what <= 2; what++) {
            int asked = what;
            refused(7, "explore, " + what, h -> h.explore(TOO_LARGE, asked));
        }
        for (int k : new int[] {LEAST, -1, 0, 1, 2000, MOST}) {
            refused(7, "end " + k + ", the first what", h -> h.end(TOO_LARGE, k, 0));
            refused(7, "end " + k + ", the last what", h -> h.end(TOO_LARGE, k, 9));
            thrown(IllegalArgumentException.class, "end " + k + ", a what too large", h -> h.end(TOO_LARGE, k, 10));
            thrown(IllegalArgumentException.class, "end " + k + ", a what below 0", h -> h.end(TOO_LARGE, k, -1));
        }
        for (int what : new int[] {LEAST, -1, 3, MOST}) {
            thrown(IllegalArgumentException.class, "explore " + what, h -> h.explore(TOO_LARGE, what));
        }
    }

    /** Without a handle left, too: for these the argument is told before rule 6. */
    private static void noSuchMachine() {
        int[][] none = {{0, 1}, {33, 1}, {1, 0}, {1, 9}, {0, 0}, {33, 9}, {-1, 8}, {32, -1}, {LEAST, 8}, {MOST, 8},
            {32, LEAST}, {32, MOST}};
        for (int[] m : none) {
            thrown(IllegalArgumentException.class, "machine(" + m[0] + ", " + m[1] + ")", h -> h.machine(m[0], m[1]));
        }
    }

    private static void noSuchWord() {
        for (int program : new int[] {EMPTY, FULL, OTHER_EMPTY}) {
            for (int[] w : NO_WORDS) {
                thrown(IllegalArgumentException.class, "word " + w[0] + " " + w[1] + " " + w[2] + " " + w[3],
                        h -> h.word(program, w[0], w[1], w[2], w[3], 1));
            }
        }
        for (int op = 0; op <= 7; op++) {
            int asked = op;
            thrown(UnsupportedOperationException.class, "a 25th word", h -> h.word(FULL, asked, 0, 1, 2, 3));
        }
    }

    private static void noSuchCore() {
        for (int[] c : NO_CORES) {
            String name = c[0] + " " + c[1] + " " + c[2] + " " + c[3];
            thrown(IllegalArgumentException.class, "core " + name, h -> h.core(MACHINE, c[0], c[1], c[2], c[3]));
            thrown(IllegalArgumentException.class, "change to " + name,
                    h -> h.change(FREE_CORE, c[0], c[1], c[2], c[3]));
        }
    }

    private static void noSuchNumbers() {
        for (int n : new int[] {LEAST, -1, 0, 2001, MOST}) {
            thrown(IllegalArgumentException.class, "step " + n, h -> h.step(RUN, n));
            thrown(IllegalArgumentException.class, "cycles " + n, h -> h.cycles(SIM, n));
        }
        for (int what : new int[] {LEAST, -1, 2, 3, 4, 5, 6, MOST}) {
            thrown(IllegalArgumentException.class, "state of a run " + what, h -> h.state(RUN, what));
        }
        for (int what : new int[] {LEAST, -1, 6, 7, MOST}) {
            thrown(IllegalArgumentException.class, "state of a sim " + what, h -> h.state(SIM, what));
        }
        for (int what : new int[] {LEAST, -1, 7, 8, MOST}) {
            thrown(IllegalArgumentException.class, "number of a run " + what, h -> h.number(RUN, what));
            thrown(IllegalArgumentException.class, "number of a sim " + what, h -> h.number(SIM, what));
        }
    }

    private static void noSuchOfAPair() {
        for (int kind : new int[] {LEAST, -1, 2, MOST}) {
            thrown(IllegalArgumentException.class, "pair of kind " + kind, h -> h.pair(PROGRAM, SECOND, kind));
            thrown(IllegalArgumentException.class, "pair of kind " + kind, h -> h.pair(FULL, FULL, kind));
        }
        for (int what : new int[] {LEAST, -1, 3, MOST}) {
            thrown(IllegalArgumentException.class, "explore " + what, h -> h.explore(PAIR, what));
        }
        int ends = house().explore(PAIR, 1);
        for (int k : new int[] {LEAST, -1, ends, ends + 1, 2000, MOST}) {
            for (int what = 0; what <= 10; what += 5) {
                int asked = what;
                thrown(IndexOutOfBoundsException.class, "end " + k, h -> h.end(PAIR, k, asked));
            }
            for (int what : new int[] {LEAST, -1, 11, 12, MOST}) {
                thrown(IllegalArgumentException.class, "end " + k + " " + what, h -> h.end(PAIR, k, what));
            }
        }
        for (int what : new int[] {LEAST, -1, 11, 12, MOST}) {
            thrown(IllegalArgumentException.class, "end 0 " + what, h -> h.end(PAIR, 0, what));
        }
    }

    /** All reasons that go before rule 6 are looked at above, in a padded house. */
    private static void noHandleLeft() {
        refused(6, "machine", h -> h.machine(1, 1));
        refused(6, "machine", h -> h.machine(32, 8));
        refused(6, "program", h -> h.program(MACHINE));
        refused(6, "run", h -> h.run(PROGRAM));
        refused(6, "core", h -> h.core(MACHINE, 8, 8, 8, 8));
        refused(6, "sim", h -> h.sim(CORE, PROGRAM));
        refused(6, "pair", h -> h.pair(PROGRAM, SECOND, 0));
        refused(6, "pair of one twice", h -> h.pair(FULL, FULL, 1));
    }
}
