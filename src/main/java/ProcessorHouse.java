import java.util.Arrays;

/** A house of processors; the document's promises say what each call answers and refuses. */
public final class ProcessorHouse {
    public static final int NONE = -1;

    private static final int HANDLES = 60;
    private static final int WORDS = 24;
    private static final int REGISTERS = 4;
    private static final int MOST_BITS = 32;
    private static final int MOST_PLACES = 8;
    private static final int MOST_LENGTH = 8;
    private static final int MOST_LAG = 8;
    private static final int MOST_AT_ONCE = 2000;
    private static final int STATES = 2000;
    private static final int WAITING_STORES = 2;

    private static final int MACHINE = 1;
    private static final int PROGRAM = 2;
    private static final int RUN = 3;
    private static final int CORE = 4;
    private static final int SIM = 5;
    private static final int PAIR = 6;

    private static final int NO_SUCH_HANDLE = 1;
    private static final int OTHER_KIND = 2;
    private static final int USED = 3;
    private static final int OTHER_MACHINE = 4;
    private static final int NO_WORDS = 5;
    private static final int NO_HANDLE_LEFT = 6;
    private static final int TOO_LARGE = 7;

    private static final int SET = 0;
    private static final int ADD = 1;
    private static final int SUB = 2;
    private static final int BOTH = 3;
    private static final int LOAD = 4;
    private static final int STORE = 5;
    private static final int BRANCH = 6;
    private static final int STOP = 7;

    private final Thing[] things = new Thing[HANDLES + 1];
    private int handles;
    private int lastRule;
    /** Made with the first pair that is gone through: its rows are large, and most houses need none. */
    private Explorer explorer;

    public ProcessorHouse() {
    }

    public int machine(int bits, int places) throws IllegalArgumentException, IllegalStateException {
        if (outside(bits, 1, MOST_BITS) || outside(places, 1, MOST_PLACES)) {
            throw new IllegalArgumentException("no such bits or places");
        }
        return admit(new Machine(bits, places));
    }

    public int program(int machine) throws IllegalStateException {
        return admit(new Program(machineAt(machine)));
    }

    public int word(int program, int op, int d, int a, int b, int n)
            throws IllegalStateException, IllegalArgumentException, UnsupportedOperationException {
        Program wanted = programAt(program);
        refuseIfUsed(wanted);
        if (outside(op, SET, STOP) || noRegister(d) || noRegister(a) || noRegister(b)) {
            throw new IllegalArgumentException("no such op or register");
        }
        if (wanted.size >= WORDS) {
            throw new UnsupportedOperationException("the program is full");
        }
        wanted.append(new Word(op, d, a, b, n));
        return wanted.size;
    }

    public int run(int program) throws IllegalStateException {
        Program wanted = programAt(program);
        refuseIfEmpty(wanted);
        return admit(new Run(wanted));
    }

    public int step(int run, int n) throws IllegalStateException, IllegalArgumentException {
        Run wanted = runAt(run);
        if (outside(n, 1, MOST_AT_ONCE)) {
            throw new IllegalArgumentException("no such number of steps");
        }
        int done = 0;
        while (done < n && !wanted.ended) {
            wanted.advance();
            done++;
        }
        return done;
    }

    public int core(int machine, int length, int lag, int loadLag, int penalty)
            throws IllegalStateException, IllegalArgumentException {
        Machine wanted = machineAt(machine);
        if (noCore(length, lag, loadLag, penalty)) {
            throw new IllegalArgumentException("no such length, lag, load lag or penalty");
        }
        Core made = new Core(wanted);
        made.settle(length, lag, loadLag, penalty);
        return admit(made);
    }

    public int change(int core, int length, int lag, int loadLag, int penalty)
            throws IllegalStateException, IllegalArgumentException {
        Core wanted = coreAt(core);
        refuseIfUsed(wanted);
        if (noCore(length, lag, loadLag, penalty)) {
            throw new IllegalArgumentException("no such length, lag, load lag or penalty");
        }
        int before = wanted.length;
        wanted.settle(length, lag, loadLag, penalty);
        return before;
    }

    public int sim(int core, int program) throws IllegalStateException {
        Core wantedCore = coreAt(core);
        Program wantedProgram = programAt(program);
        refuseIfApart(wantedCore.machine, wantedProgram.machine);
        refuseIfEmpty(wantedProgram);
        return admit(new Sim(wantedCore, wantedProgram));
    }

    public int cycles(int sim, int n) throws IllegalStateException, IllegalArgumentException {
        Sim wanted = simAt(sim);
        if (outside(n, 1, MOST_AT_ONCE)) {
            throw new IllegalArgumentException("no such number of cycles");
        }
        int done = 0;
        while (done < n && !wanted.left.ended) {
            wanted.tick();
            done++;
        }
        return done;
    }

    public int state(int handle, int what) throws IllegalStateException, IllegalArgumentException {
        Run shown = shownAt(handle);
        if (what == 0) {
            return shown.steps;
        }
        if (what == 1) {
            return shown.ended ? 1 : 0;
        }
        if (thingAt(handle) instanceof Sim sim && !outside(what, 2, 5)) {
            return sim.tally(what);
        }
        throw new IllegalArgumentException("no such what");
    }

    public long number(int handle, int what) throws IllegalStateException, IllegalArgumentException {
        Run shown = shownAt(handle);
        if (outside(what, 0, REGISTERS + shown.memory.length - 1)) {
            throw new IllegalArgumentException("no such register or place");
        }
        return what < REGISTERS ? shown.registers[what] : shown.memory[what - REGISTERS];
    }

    public boolean agrees(int sim, int run) throws IllegalStateException {
        Run left = simAt(sim).left;
        Run other = runAt(run);
        int missing = left.steps - other.steps;
        for (int k = 0; k < missing && !other.ended; k++) {
            other.advance();
        }
        return other.sameAs(left);
    }

    public int pair(int one, int two, int kind) throws IllegalStateException, IllegalArgumentException {
        Program first = programAt(one);
        Program second = programAt(two);
        refuseIfApart(first.machine, second.machine);
        refuseIfEmpty(first);
        refuseIfEmpty(second);
        if (outside(kind, 0, 1)) {
            throw new IllegalArgumentException("no such kind of pair");
        }
        return admit(new Pair(first, second, kind == 1));
    }

    public int explore(int pair, int what) throws IllegalStateException, IllegalArgumentException {
        Pair wanted = pairAt(pair);
        if (outside(what, 0, 2)) {
            throw new IllegalArgumentException("no such what");
        }
        refuseIfTooLarge(wanted);
        if (what == 0) {
            return wanted.states;
        }
        return what == 1 ? wanted.ends : wanted.stuck;
    }

    public long end(int pair, int k, int what)
            throws IllegalStateException, IllegalArgumentException, IndexOutOfBoundsException {
        Pair wanted = pairAt(pair);
        if (outside(what, 0, wanted.endWidth() - 1)) {
            throw new IllegalArgumentException("no such register or place");
        }
        refuseIfTooLarge(wanted);
        if (outside(k, 0, wanted.ends - 1)) {
            throw new IndexOutOfBoundsException("no such end");
        }
        return wanted.endNumbers[k * wanted.endWidth() + what];
    }

    public int drop(int handle) throws IllegalStateException {
        Thing dropped = livingAt(handle);
        refuseIfUsed(dropped);
        things[handle] = null;
        return dropped.kindNumber;
    }

    public int kind(int handle) {
        Thing thing = thingAt(handle);
        return thing == null ? 0 : thing.kindNumber;
    }

    public int rule() {
        return lastRule;
    }

    public int count(int what) {
        if (outside(what, 0, 1 + PAIR)) {
            return NONE;
        }
        if (what == 0) {
            return handles;
        }
        int living = 0;
        for (Thing thing : things) {
            if (thing != null && (what == 1 || thing.kindNumber == what - 1)) {
                living++;
            }
        }
        return living;
    }

    private static boolean outside(int number, int least, int most) {
        return number < least || number > most;
    }

    private static boolean noRegister(int number) {
        return outside(number, 0, REGISTERS - 1);
    }

    private static boolean noCore(int length, int lag, int loadLag, int penalty) {
        return outside(length, 1, MOST_LENGTH) || outside(lag, 0, MOST_LAG)
                || outside(loadLag, 0, MOST_LAG) || outside(penalty, 0, MOST_LAG);
    }

    private int admit(Thing thing) {
        if (handles >= HANDLES) {
            refuse(NO_HANDLE_LEFT);
        }
        handles++;
        things[handles] = thing;
        return handles;
    }

    private void refuse(int rule) {
        lastRule = rule;
        throw new IllegalStateException("a rule refuses this call");
    }

    private void refuseIfUsed(Thing thing) {
        for (Thing other : things) {
            if (other != null && other.uses(thing)) {
                refuse(USED);
            }
        }
    }

    private void refuseIfApart(Machine one, Machine other) {
        if (one != other) {
            refuse(OTHER_MACHINE);
        }
    }

    private void refuseIfEmpty(Program program) {
        if (program.size == 0) {
            refuse(NO_WORDS);
        }
    }

    /** A living pair's programs are used and so never change: it is gone through only once. */
    private void refuseIfTooLarge(Pair pair) {
        if (!pair.explored) {
            if (explorer == null) {
                explorer = new Explorer();
            }
            explorer.goThrough(pair);
        }
        if (pair.tooLarge) {
            refuse(TOO_LARGE);
        }
    }

    private Thing thingAt(int handle) {
        return outside(handle, 1, HANDLES) ? null : things[handle];
    }

    private Thing livingAt(int handle) {
        Thing thing = thingAt(handle);
        if (thing == null) {
            lastRule = NO_SUCH_HANDLE;
            throw new IllegalStateException("there is no such handle");
        }
        return thing;
    }

    private Machine machineAt(int handle) {
        if (livingAt(handle) instanceof Machine machine) {
            return machine;
        }
        lastRule = OTHER_KIND;
        throw new IllegalStateException("this is no machine");
    }

    private Program programAt(int handle) {
        if (livingAt(handle) instanceof Program program) {
            return program;
        }
        lastRule = OTHER_KIND;
        throw new IllegalStateException("this is no program");
    }

    private Run runAt(int handle) {
        if (livingAt(handle) instanceof Run run) {
            return run;
        }
        lastRule = OTHER_KIND;
        throw new IllegalStateException("this is no run");
    }

    private Core coreAt(int handle) {
        if (livingAt(handle) instanceof Core core) {
            return core;
        }
        lastRule = OTHER_KIND;
        throw new IllegalStateException("this is no core");
    }

    private Sim simAt(int handle) {
        if (livingAt(handle) instanceof Sim sim) {
            return sim;
        }
        lastRule = OTHER_KIND;
        throw new IllegalStateException("this is no sim");
    }

    private Pair pairAt(int handle) {
        if (livingAt(handle) instanceof Pair pair) {
            return pair;
        }
        lastRule = OTHER_KIND;
        throw new IllegalStateException("this is no pair");
    }

    /** What a run or a sim shows of itself: of a sim, only the words that left. */
    private Run shownAt(int handle) {
        Thing thing = livingAt(handle);
        if (thing instanceof Run run) {
            return run;
        }
        if (thing instanceof Sim sim) {
            return sim.left;
        }
        lastRule = OTHER_KIND;
        throw new IllegalStateException("this is neither a run nor a sim");
    }

    /** What a handle stands for. */
    private abstract static class Thing {
        final int kindNumber;

        Thing(int kindNumber) {
            this.kindNumber = kindNumber;
        }

        abstract boolean uses(Thing other);
    }

    private static final class Machine extends Thing {
        final int places;
        private final long mask;

        Machine(int bits, int places) {
            super(MACHINE);
            this.places = places;
            this.mask = (1L << bits) - 1;
        }

        boolean uses(Thing other) {
            return false;
        }

        long cut(long number) {
            return number & mask;
        }

        int placeOf(long number) {
            return places < 1 ? 0 : (int) (cut(number) % places);
        }
    }

    /** A word of a program; n stays as it came, for SET cuts it to the bits and BRANCH to the words. */
    private static final class Word {
        final int op;
        final int d;
        final int a;
        final int b;
        final int n;

        Word(int op, int d, int a, int b, int n) {
            this.op = op;
            this.d = d;
            this.a = a;
            this.b = b;
            this.n = n;
        }

        boolean computes() {
            return op <= BOTH;
        }

        boolean writes() {
            return op <= LOAD;
        }

        boolean readsA() {
            return op != SET && op != STOP;
        }

        boolean readsB() {
            return op == STORE || (op != SET && computes());
        }

        boolean goes(long left) {
            return op == BRANCH && left != 0;
        }

        long result(long left, long right) {
            switch (op) {
                case ADD:
                    return left + right;
                case SUB:
                    return left - right;
                case BOTH:
                    return left & right;
                default:
                    return n;
            }
        }
    }

    private static final class Program extends Thing {
        final Machine machine;
        private final Word[] words = new Word[WORDS];
        int size;

        Program(Machine machine) {
            super(PROGRAM);
            this.machine = machine;
        }

        boolean uses(Thing other) {
            return other == machine;
        }

        void append(Word word) {
            if (size < WORDS) {
                words[size] = word;
                size++;
            }
        }

        /** The word there, or null where none is. */
        Word wordAt(int index) {
            return outside(index, 0, size - 1) ? null : words[index];
        }

        int targetOf(Word word) {
            return size < 1 ? 0 : Math.floorMod(word.n, size);
        }
    }

    private static final class Run extends Thing {
        final Program program;
        final long[] registers = new long[REGISTERS];
        final long[] memory;
        private int next;
        int steps;
        boolean ended;

        Run(Program program) {
            super(RUN);
            this.program = program;
            this.memory = new long[program.machine.places];
        }

        boolean uses(Thing other) {
            return other == program;
        }

        /** The word of the next step, or null behind the end. */
        Word nextWord() {
            return ended ? null : program.wordAt(next);
        }

        void advance() {
            Word word = nextWord();
            if (word == null) {
                return;
            }
            long left = registers[word.a];
            perform(word, left, registers[word.b]);
            steps++;
            if (word.goes(left)) {
                next = program.targetOf(word);
            } else {
                next = next + 1 < program.size ? next + 1 : 0;
            }
        }

        private void perform(Word word, long left, long right) {
            Machine machine = program.machine;
            if (word.computes()) {
                registers[word.d] = machine.cut(word.result(left, right));
            } else if (word.op == LOAD) {
                registers[word.d] = memory[machine.placeOf(left)];
            } else if (word.op == STORE) {
                memory[machine.placeOf(left)] = right;
            } else if (word.op == STOP) {
                ended = true;
            }
        }

        boolean sameAs(Run other) {
            return program == other.program && steps == other.steps
                    && sameNumbers(registers, other.registers) && sameNumbers(memory, other.memory);
        }

        private static boolean sameNumbers(long[] some, long[] others) {
            if (some.length != others.length) {
                return false;
            }
            for (int k = 0; k < some.length; k++) {
                if (some[k] != others[k]) {
                    return false;
                }
            }
            return true;
        }
    }

    private static final class Core extends Thing {
        final Machine machine;
        int length;
        int lag;
        int loadLag;
        int penalty;

        Core(Machine machine) {
            super(CORE);
            this.machine = machine;
        }

        boolean uses(Thing other) {
            return other == machine;
        }

        void settle(int newLength, int newLag, int newLoadLag, int newPenalty) {
            length = newLength;
            lag = newLag;
            loadLag = newLoadLag;
            penalty = newPenalty;
        }
    }

    /** Two runs of one program: a word is done by the one when it enters, by the other when it leaves. */
    private static final class Sim extends Thing {
        /** More than the words that can be inside at once, and a power of two. */
        private static final int RING = 16;

        private final Core core;
        private final Run entered;
        final Run left;
        private int cycle;
        private int lastEntry;
        /** Cycles behind the last entry that the penalty bars. */
        private int barred;
        private int lostByPenalty;
        private int lostByLags;
        /** For each register the first cycle in which a word that reads it may enter. */
        private final int[] readable = new int[REGISTERS];
        private final int[] leaving = new int[RING];

        Sim(Core core, Program program) {
            super(SIM);
            this.core = core;
            this.entered = new Run(program);
            this.left = new Run(program);
        }

        boolean uses(Thing other) {
            return other == core || other == left.program;
        }

        void tick() {
            cycle++;
            Word word = entered.nextWord();
            if (word != null && cycle >= entryOf(word)) {
                enter(word);
            }
            if (left.steps < entered.steps && leaving[left.steps & (RING - 1)] == cycle) {
                left.advance();
            }
        }

        private int entryOf(Word word) {
            int entry = lastEntry + 1 + barred;
            if (word.readsA()) {
                entry = Math.max(entry, readable[word.a]);
            }
            if (word.readsB()) {
                entry = Math.max(entry, readable[word.b]);
            }
            return entry;
        }

        private void enter(Word word) {
            lostByPenalty += barred;
            lostByLags += cycle - lastEntry - 1 - barred;
            lastEntry = cycle;
            barred = word.goes(entered.registers[word.a]) ? core.penalty : 0;
            if (word.writes()) {
                readable[word.d] = cycle + 1 + (word.op == LOAD ? core.loadLag : core.lag);
            }
            leaving[entered.steps & (RING - 1)] = cycle + core.length;
            entered.advance();
        }

        int tally(int what) {
            switch (what) {
                case 2:
                    return cycle;
                case 3:
                    return entered.steps;
                case 4:
                    return lostByPenalty;
                default:
                    return lostByLags;
            }
        }
    }

    private static final class Pair extends Thing {
        final Program one;
        final Program two;
        final boolean storesWait;
        boolean explored;
        boolean tooLarge;
        int states;
        int ends;
        int stuck;
        /** The ends in their order, each with its registers and its memory. */
        long[] endNumbers = new long[0];

        Pair(Program one, Program two, boolean storesWait) {
            super(PAIR);
            this.one = one;
            this.two = two;
            this.storesWait = storesWait;
        }

        boolean uses(Thing other) {
            return other == one || other == two;
        }

        Program programOf(int side) {
            return side == 0 ? one : two;
        }

        int endWidth() {
            return 2 * REGISTERS + one.machine.places;
        }
    }

    /** Goes through all states of a pair; its rows serve one pair after the other. */
    private static final class Explorer {
        /** Where a state has its numbers: next words, registers and waiting stores of both sides, memory. */
        private static final int NEXT = 0;
        private static final int OWN = 2;
        private static final int MEMORY = OWN + 2 * REGISTERS;
        private static final int WAITING = MEMORY + MOST_PLACES;
        private static final int ROWS = WAITING + 2;
        /** A store that waits has its place and its number. */
        private static final int ROW = 2 * WAITING_STORES;
        private static final int WIDTH = ROWS + 2 * ROW;
        /** Over twice the states, so that a free slot is near, and a power of two. */
        private static final int SLOTS = 4096;

        private final long[] states = new long[STATES * WIDTH];
        /** In each slot 0, or one more than the number of a state. */
        private final int[] slots = new int[SLOTS];
        private final int[] ends = new int[STATES];
        /** The state that a step comes to, before it is known to be new. */
        private final long[] trial = new long[WIDTH];
        private Pair pair;
        private Machine machine;
        private int found;
        private int endsFound;
        private int stuck;
        private boolean tooLarge;

        void goThrough(Pair wanted) {
            pair = wanted;
            machine = wanted.one.machine;
            found = 0;
            endsFound = 0;
            stuck = 0;
            tooLarge = false;
            Arrays.fill(slots, 0);
            Arrays.fill(trial, 0L);
            keepTrial();
            for (int at = 0; at < found && at < STATES && !tooLarge; at++) {
                goOnFrom(at);
            }
            tell();
        }

        private void goOnFrom(int at) {
            int goes = 0;
            for (int side = 0; side < 2; side++) {
                if (tryWord(at, side)) {
                    goes++;
                }
                if (tryStore(at, side)) {
                    goes++;
                }
            }
            if (goes == 0) {
                if (isEnd(at)) {
                    insertEnd(at);
                } else {
                    stuck++;
                }
            }
        }

        private boolean tryWord(int at, int side) {
            takeTrial(at);
            Program program = pair.programOf(side);
            int index = (int) trial[NEXT + side];
            Word word = program.wordAt(index);
            if (word == null || (word.op == STORE && rowIsFull(side))) {
                return false;
            }
            int own = OWN + side * REGISTERS;
            long left = trial[own + word.a];
            perform(word, side, left, trial[own + word.b]);
            trial[NEXT + side] = following(program, word, index, left);
            keepTrial();
            return true;
        }

        private boolean rowIsFull(int side) {
            return pair.storesWait && trial[WAITING + side] >= WAITING_STORES;
        }

        private void perform(Word word, int side, long left, long right) {
            int target = OWN + side * REGISTERS + word.d;
            if (word.computes()) {
                trial[target] = machine.cut(word.result(left, right));
            } else if (word.op == LOAD) {
                trial[target] = loaded(side, machine.placeOf(left));
            } else if (word.op == STORE && pair.storesWait) {
                putInRow(side, machine.placeOf(left), right);
            } else if (word.op == STORE) {
                trial[MEMORY + machine.placeOf(left)] = right;
            }
        }

        /** NONE behind STOP and behind the last word alike: both ends are one. */
        private static int following(Program program, Word word, int index, long left) {
            if (word.goes(left)) {
                return program.targetOf(word);
            }
            return word.op == STOP || index + 1 >= program.size ? NONE : index + 1;
        }

        private long loaded(int side, int place) {
            int row = ROWS + side * ROW;
            long number = trial[MEMORY + place];
            for (int k = 0; k < WAITING_STORES && k < trial[WAITING + side]; k++) {
                if (trial[row + 2 * k] == place) {
                    number = trial[row + 2 * k + 1];
                }
            }
            return number;
        }

        private void putInRow(int side, int place, long number) {
            int waiting = (int) trial[WAITING + side];
            if (waiting < 0 || waiting >= WAITING_STORES) {
                return;
            }
            int last = ROWS + side * ROW + 2 * waiting;
            trial[last] = place;
            trial[last + 1] = number;
            trial[WAITING + side] = waiting + 1;
        }

        private boolean tryStore(int at, int side) {
            takeTrial(at);
            int first = ROWS + side * ROW;
            int place = (int) trial[first];
            if (trial[WAITING + side] < 1 || outside(place, 0, MOST_PLACES - 1)) {
                return false;
            }
            trial[MEMORY + place] = trial[first + 1];
            System.arraycopy(trial, first + 2, trial, first, ROW - 2);
            // What no longer waits is wiped, so that equal states have equal numbers.
            trial[first + ROW - 2] = 0;
            trial[first + ROW - 1] = 0;
            trial[WAITING + side]--;
            keepTrial();
            return true;
        }

        private void takeTrial(int at) {
            System.arraycopy(states, at * WIDTH, trial, 0, WIDTH);
        }

        /** From the trial's own slot on: a free slot before one that holds it tells that it is new. */
        private void keepTrial() {
            int start = mixed();
            for (int k = 0; k < SLOTS; k++) {
                int slot = (start + k) & (SLOTS - 1);
                if (slots[slot] == 0) {
                    putTrial(slot);
                    return;
                }
                if (isTrial(slots[slot] - 1)) {
                    return;
                }
            }
        }

        private void putTrial(int slot) {
            if (found >= STATES) {
                tooLarge = true;
                return;
            }
            System.arraycopy(trial, 0, states, found * WIDTH, WIDTH);
            found++;
            slots[slot] = found;
        }

        private int mixed() {
            long mix = 0;
            for (int k = 0; k < WIDTH; k++) {
                mix = (mix ^ trial[k]) * 0x9E3779B97F4A7C15L;
                mix ^= mix >>> 29;
            }
            return (int) mix & (SLOTS - 1);
        }

        private boolean isTrial(int at) {
            int from = at * WIDTH;
            for (int k = 0; k < WIDTH; k++) {
                if (states[from + k] != trial[k]) {
                    return false;
                }
            }
            return true;
        }

        private boolean isEnd(int at) {
            int from = at * WIDTH;
            return states[from + NEXT] == NONE && states[from + NEXT + 1] == NONE
                    && states[from + WAITING] == 0 && states[from + WAITING + 1] == 0;
        }

        private void insertEnd(int at) {
            if (endsFound >= STATES) {
                return;
            }
            int free = endsFound;
            for (; free > 0 && endIsBefore(at, ends[free - 1]); free--) {
                ends[free] = ends[free - 1];
            }
            ends[free] = at;
            endsFound++;
        }

        private boolean endIsBefore(int one, int other) {
            int width = pair.endWidth();
            for (int k = OWN; k < OWN + width; k++) {
                long left = states[one * WIDTH + k];
                long right = states[other * WIDTH + k];
                if (left != right) {
                    return left < right;
                }
            }
            return false;
        }

        private void tell() {
            pair.explored = true;
            pair.tooLarge = tooLarge;
            if (tooLarge) {
                return;
            }
            int width = pair.endWidth();
            pair.states = found;
            pair.stuck = stuck;
            pair.ends = endsFound;
            pair.endNumbers = new long[endsFound * width];
            for (int k = 0; k < endsFound; k++) {
                System.arraycopy(states, ends[k] * WIDTH + OWN, pair.endNumbers, k * width, width);
            }
        }
    }
}
