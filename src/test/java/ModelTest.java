import java.util.Arrays;
import java.util.Random;

/** Long runs of calls, each answered by the house and by the model; the same ones each time. */
public final class ModelTest {
    private static final int RUNS = 400;
    private static final int CALLS = 512;
    private static final int[] STRANGE = {Integer.MIN_VALUE, -2, -1, 0, 9, 33, 61, 2001, Integer.MAX_VALUE};

    private final Check check;
    private final Random random;
    private final ProcessorHouse house = new ProcessorHouse();
    private final Model model = new Model();
    private final String name;
    private int handles;

    private ModelTest(Check check, int seed) {
        this.check = check;
        this.random = new Random(seed);
        this.name = "run " + seed;
    }

    public static void main(String[] args) {
        Check check = new Check();
        for (int seed = 1; seed <= RUNS; seed++) {
            new ModelTest(check, seed).anyCalls();
            new ModelTest(check, seed).pairs();
            new ModelTest(check, seed).sims();
        }
        check.done();
    }

    private void call(int... numbers) {
        compare(Arrays.copyOf(numbers, 7));
    }

    /** Registers that differ, then mostly loads and stores, so that two of these meet in memory. */
    private void meetingProgram(int program) {
        call(2, program, 0, 1, 0, 0, 1);
        if (random.nextBoolean()) {
            call(2, program, 0, 2, 0, 0, 2 + random.nextInt(3));
        }
        int words = 2 + random.nextInt(4);
        for (int k = 0; k < words; k++) {
            int op = random.nextInt(6) == 0 ? random.nextInt(8) : 4 + random.nextInt(2);
            int d = random.nextInt(4) == 0 ? random.nextInt(4) : 3;
            call(2, program, op, d, random.nextInt(3), 1 + random.nextInt(3), random.nextInt(9) - 2);
        }
    }

    private void pairs() {
        call(0, random.nextInt(4) == 0 ? 32 : 1 + random.nextInt(4), 1 + random.nextInt(3));
        call(1, 1);
        call(1, 1);
        meetingProgram(2);
        meetingProgram(3);
        call(12, 2, 3, 0);
        call(12, 2, 3, 1);
        call(12, 3, 3, 1);
        for (int pair = 4; pair <= 6; pair++) {
            for (int what = 0; what <= 2; what++) {
                call(13, pair, what);
            }
            for (int k = 0; k < 4; k++) {
                for (int what = 0; what < 11; what++) {
                    call(14, pair, k, what);
                }
            }
        }
    }

    private void sims() {
        call(0, 1 + random.nextInt(32), 1 + random.nextInt(8));
        call(1, 1);
        int words = 3 + random.nextInt(10);
        for (int k = 0; k < words; k++) {
            int op = k + 1 < words ? random.nextInt(7) : random.nextInt(8);
            call(2, 2, op, random.nextInt(4), random.nextInt(4), random.nextInt(4), random.nextInt(40) - 20);
        }
        call(5, 1, 1 + random.nextInt(8), random.nextInt(9), random.nextInt(9), random.nextInt(9));
        call(7, 3, 2);
        call(3, 2);
        for (int k = 0; k < 20; k++) {
            call(8, 4, 1 + random.nextInt(9));
            for (int what = 0; what <= 5; what++) {
                call(9, 4, what);
            }
            for (int what = 0; what < 12; what++) {
                call(10, 4, what);
            }
            call(11, 4, 5);
            call(9, 5, 0);
        }
    }

    private void anyCalls() {
        // Few bits and places let programs meet; few handles of each kind let them be used together.
        boolean small = random.nextInt(3) > 0;
        for (int k = 0; k < CALLS / 2; k++) {
            compare(random.nextInt(60) == 0 ? strangeCall() : usualCall(small));
            call(18);
        }
    }

    private void compare(int[] c) {
        Object want = due(c);
        Object got;
        try {
            got = answer(c);
        } catch (RuntimeException e) {
            got = e.getClass().getSimpleName();
        }
        if (!got.equals(want)) {
            check.tell(name + ": " + Arrays.toString(c) + " answered " + got + ", due is " + want);
        }
        handles = house.count(0);
    }

    private int handle() {
        return random.nextInt(50) == 0 ? random.nextInt(62) : 1 + random.nextInt(Math.max(1, handles));
    }

    /** A handle of the kind, if a few tries find one. */
    private int handle(int kind) {
        int handle = handle();
        for (int k = 0; k < 40 && house.kind(handle) != kind && random.nextInt(60) > 0; k++) {
            handle = handle();
        }
        return handle;
    }

    private int[] strangeCall() {
        int[] call = {random.nextInt(20), 0, 0, 0, 0, 0, 0};
        for (int k = 1; k < call.length; k++) {
            call[k] = random.nextInt(3) == 0 ? STRANGE[random.nextInt(STRANGE.length)] : handle();
        }
        return call;
    }

    private int upTo(int most) {
        return random.nextInt(80) == 0 ? random.nextInt(2) * (most + 2) - 1 : random.nextInt(most + 1);
    }

    private int[] usualCall(boolean small) {
        int which = random.nextInt(100);
        if (house.count(2) == 0 || which < 1) {
            return new int[] {0, small ? 1 + upTo(3) : 1 + upTo(31), small ? 1 + upTo(2) : 1 + upTo(7), 0, 0, 0, 0};
        }
        if (house.count(3) == 0 || which < 4) {
            return new int[] {1, handle(1), 0, 0, 0, 0, 0};
        }
        if (which < 40) {
            int n = random.nextInt(4) == 0 ? random.nextInt() : random.nextInt(12) - 4;
            int op = random.nextInt(3) == 0 ? 4 + random.nextInt(2) : upTo(7);
            return new int[] {2, handle(2), op, upTo(3), upTo(3), upTo(3), n};
        }
        if (which < 60) {
            return going(which);
        }
        int[][] calls = {
            {9, handle(random.nextBoolean() ? 3 : 5), upTo(5), 0, 0, 0, 0},
            {10, handle(random.nextBoolean() ? 3 : 5), upTo(small ? 6 : 11), 0, 0, 0, 0},
            {11, handle(5), handle(3), 0, 0, 0, 0},
            {12, handle(2), handle(2), upTo(1), 0, 0, 0},
            {13, handle(6), upTo(2), 0, 0, 0, 0},
            {14, handle(6), upTo(3), upTo(small ? 10 : 15), 0, 0, 0},
            {15, handle(), 0, 0, 0, 0, 0},
            {16, random.nextInt(62), 0, 0, 0, 0, 0},
            {17, upTo(8), 0, 0, 0, 0, 0},
        };
        int[] chosen = calls[random.nextInt(calls.length)];
        // Making things by the dozen would leave no handles for the rest of the run.
        return chosen[0] == 12 && random.nextInt(3) > 0 ? calls[4] : chosen;
    }

    private int[] going(int which) {
        switch (which % 10) {
            case 0:
                return new int[] {3, handle(2), 0, 0, 0, 0, 0};
            case 1:
                return new int[] {5, handle(1), 1 + upTo(7), upTo(8), upTo(8), upTo(8), 0};
            case 2:
                return new int[] {6, handle(4), 1 + upTo(7), upTo(8), upTo(8), upTo(8), 0};
            case 3:
                return new int[] {7, handle(4), handle(2), 0, 0, 0, 0};
            case 4:
            case 5:
                return new int[] {4, handle(3), upTo(20), 0, 0, 0, 0};
            default:
                return new int[] {8, handle(5), upTo(30), 0, 0, 0, 0};
        }
    }

    private Object answer(int[] c) {
        switch (c[0]) {
            case 0: return (long) house.machine(c[1], c[2]);
            case 1: return (long) house.program(c[1]);
            case 2: return (long) house.word(c[1], c[2], c[3], c[4], c[5], c[6]);
            case 3: return (long) house.run(c[1]);
            case 4: return (long) house.step(c[1], c[2]);
            case 5: return (long) house.core(c[1], c[2], c[3], c[4], c[5]);
            case 6: return (long) house.change(c[1], c[2], c[3], c[4], c[5]);
            case 7: return (long) house.sim(c[1], c[2]);
            case 8: return (long) house.cycles(c[1], c[2]);
            case 9: return (long) house.state(c[1], c[2]);
            case 10: return house.number(c[1], c[2]);
            case 11: return house.agrees(c[1], c[2]) ? 1L : 0L;
            case 12: return (long) house.pair(c[1], c[2], c[3]);
            case 13: return (long) house.explore(c[1], c[2]);
            case 14: return house.end(c[1], c[2], c[3]);
            case 15: return (long) house.drop(c[1]);
            case 16: return (long) house.kind(c[1]);
            case 17: return (long) house.count(c[1]);
            default: return (long) house.rule();
        }
    }

    private Object due(int[] c) {
        switch (c[0]) {
            case 0: return model.machine(c[1], c[2]);
            case 1: return model.program(c[1]);
            case 2: return model.word(c[1], c[2], c[3], c[4], c[5], c[6]);
            case 3: return model.run(c[1]);
            case 4: return model.step(c[1], c[2]);
            case 5: return model.core(c[1], c[2], c[3], c[4], c[5]);
            case 6: return model.change(c[1], c[2], c[3], c[4], c[5]);
            case 7: return model.sim(c[1], c[2]);
            case 8: return model.cycles(c[1], c[2]);
            case 9: return model.state(c[1], c[2]);
            case 10: return model.number(c[1], c[2]);
            case 11: return model.agrees(c[1], c[2]);
            case 12: return model.pair(c[1], c[2], c[3]);
            case 13: return model.explore(c[1], c[2]);
            case 14: return model.end(c[1], c[2], c[3]);
            case 15: return model.drop(c[1]);
            case 16: return model.kind(c[1]);
            case 17: return model.count(c[1]);
            default: return model.rule();
        }
    }
}
