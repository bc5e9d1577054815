import java.util.Arrays;

/** When words enter and leave: each length, lag, load lag and penalty at its edges, and what is lost by them. */
public final class TimingTest {
    private static final Check CHECK = new Check();

    public static void main(String[] args) {
        for (int number = 0; number <= 8; number++) {
            if (number > 0) {
                length(number);
                fullCore(number);
            }
            for (int between = 0; between <= 10; between++) {
                lag(number, between);
                loadLag(number, between);
            }
            penalty(number);
            for (int other = 0; other <= 8; other++) {
                penaltyAndLoadLag(number, other);
                penaltyAndLag(number, other);
                lagOfTwo(number, other);
            }
        }
        lostOnlyWhenEntered();
        penaltyOfEachRound();
        nothingBehindStop();
        cyclesUntilTheEnd();
        agreesAtItsEdges();
        agreesWithOneThatEnded();
        agreesByTheStepsAlone();
        CHECK.done();
    }

    private static int[] w(int op, int d, int a, int b, int n) {
        return new int[] {op, d, a, b, n};
    }

    /** 1 machine, 2 program, 3 core, 4 sim. */
    private static ProcessorHouse house(int[] core, int[]... words) {
        ProcessorHouse house = new ProcessorHouse();
        house.machine(8, 4);
        house.program(1);
        for (int[] w : words) {
            house.word(2, w[0], w[1], w[2], w[3], w[4]);
        }
        house.core(1, core[0], core[1], core[2], core[3]);
        house.sim(3, 2);
        return house;
    }

    private static int[] core(int length, int lag, int loadLag, int penalty) {
        return new int[] {length, lag, loadLag, penalty};
    }

    private static void states(String name, ProcessorHouse house, int... due) {
        for (int what = 0; what < due.length; what++) {
            CHECK.due(name + ", state(4, " + what + ")", due[what], house.state(4, what));
        }
    }

    /** The cycle in which the last of so many words entered, and what had been lost by the penalty and by lags then. */
    private static void entry(String name, ProcessorHouse house, int words, int due, int penalty, int lags) {
        for (int k = 0; k < 300 && house.state(4, 3) < words; k++) {
            house.cycles(4, 1);
        }
        CHECK.due(name + ", entered", due, house.state(4, 2));
        CHECK.due(name + ", lost by the penalty", penalty, house.state(4, 4));
        CHECK.due(name + ", lost by lags", lags, house.state(4, 5));
    }

    /** Word 0 enters in cycle 1 and leaves as many cycles later as the length. */
    private static void length(int length) {
        ProcessorHouse house = house(core(length, 8, 8, 8), w(0, 2, 0, 0, 9), w(7, 0, 0, 0, 0));
        states("before cycle 1", house, 0, 0, 0, 0, 0, 0);
        house.cycles(4, 1);
        states("cycle 1", house, 0, 0, 1, 1, 0, 0);
        if (length > 1) {
            house.cycles(4, length - 1);
        }
        states("the cycle before it leaves", house, 0, 0, length, Math.min(length, 2), 0, 0);
        CHECK.due("not done", 0, house.number(4, 2));
        house.cycles(4, 1);
        states("the cycle in which it leaves", house, 1, 0, length + 1, 2, 0, 0);
        CHECK.due("done", 9, house.number(4, 2));
        CHECK.answers("one cycle more", 1, () -> house.cycles(4, 2000));
        states("ended", house, 2, 1, length + 2, 2, 0, 0);
    }

    /** A word enters in each cycle, as many are inside as the length; then one leaves in each cycle, too. */
    private static void fullCore(int length) {
        ProcessorHouse house = house(core(length, 0, 0, 0), w(1, 0, 0, 1, 0), w(0, 1, 0, 0, 1), w(1, 2, 2, 1, 0));
        for (int cycle = 1; cycle <= 200; cycle++) {
            house.cycles(4, 1);
            states("length " + length, house, Math.max(0, cycle - length), 0, cycle, cycle, 0, 0);
        }
        int run = house.run(2);
        CHECK.due("agrees", 1, house.agrees(4, run) ? 1 : 0);
        CHECK.due("steps", 200 - length, house.state(run, 0));
    }

    /** A writer, so many words between, one that reads what it wrote. */
    private static int[][] between(int[] writer, int between, int[] reader) {
        int[][] words = new int[between + 2][];
        words[0] = writer;
        Arrays.fill(words, 1, between + 1, w(0, 3, 0, 0, 1));
        words[between + 1] = reader;
        return words;
    }

    private static void lag(int lag, int between) {
        int[][] writers = {w(0, 1, 0, 0, 1), w(1, 1, 2, 2, 0), w(2, 1, 2, 2, 0), w(3, 1, 2, 2, 0)};
        int[][] readers = {w(1, 0, 1, 2, 0), w(2, 0, 2, 1, 0), w(3, 0, 1, 1, 0), w(4, 0, 1, 2, 0), w(5, 0, 1, 2, 0),
            w(5, 0, 2, 1, 0), w(6, 0, 1, 2, 0)};
        for (int[] writer : writers) {
            for (int[] reader : readers) {
                ProcessorHouse house = house(core(1, lag, 8 - lag, 0), between(writer, between, reader));
                entry("op " + reader[0] + " behind op " + writer[0] + ", lag " + lag, house, between + 2,
                        Math.max(2 + between, 2 + lag), 0, Math.max(0, lag - between));
            }
        }
    }

    private static void loadLag(int loadLag, int between) {
        ProcessorHouse house = house(core(1, 8 - loadLag, loadLag, 0),
                between(w(4, 1, 2, 0, 0), between, w(1, 0, 1, 1, 0)));
        entry("load lag " + loadLag, house, between + 2, Math.max(2 + between, 2 + loadLag), 0,
                Math.max(0, loadLag - between));
    }

    /** Behind a BRANCH that goes; a BRANCH that does not go has none. */
    private static void penalty(int penalty) {
        ProcessorHouse goes = house(core(1, 0, 0, penalty), w(0, 0, 0, 0, 1), w(6, 0, 0, 0, 2), w(7, 0, 0, 0, 0));
        entry("goes, penalty " + penalty, goes, 3, 3 + penalty, penalty, 0);
        ProcessorHouse stays = house(core(1, 0, 0, penalty), w(0, 0, 0, 0, 1), w(6, 0, 1, 0, 2), w(7, 0, 0, 0, 0));
        entry("does not go, penalty " + penalty, stays, 3, 3, 0, 0);
        ProcessorHouse later = house(core(1, 0, 0, penalty), w(0, 0, 0, 0, 1), w(6, 0, 0, 0, 2), w(0, 1, 0, 0, 0),
                w(7, 0, 0, 0, 0));
        entry("the word behind the next one", later, 4, 4 + penalty, penalty, 0);
    }

    /** SET, LOAD, BRANCH that goes, a word that reads what the LOAD wrote: what the penalty bars is lost by it. */
    private static void penaltyAndLoadLag(int penalty, int loadLag) {
        ProcessorHouse house = house(core(1, 0, loadLag, penalty), w(0, 0, 0, 0, 1), w(4, 1, 2, 2, 0),
                w(6, 0, 0, 0, 3), w(1, 3, 1, 1, 0), w(7, 0, 0, 0, 0));
        int due = Math.max(4 + penalty, 3 + loadLag);
        entry("penalty " + penalty + ", load lag " + loadLag, house, 4, due, penalty,
                Math.max(0, loadLag - 1 - penalty));
    }

    /** The BRANCH itself waits for the SET by the lag, then the next one for both. */
    private static void penaltyAndLag(int penalty, int lag) {
        ProcessorHouse house = house(core(1, lag, 0, penalty), w(0, 0, 0, 0, 1), w(6, 0, 0, 0, 2), w(1, 3, 0, 0, 0),
                w(7, 0, 0, 0, 0));
        entry("BRANCH behind SET, lag " + lag, house, 2, 2 + lag, 0, lag);
        entry("penalty " + penalty + " behind it", house, 3, 3 + lag + penalty, penalty, lag);
    }

    /** One that reads two registers, written by a SET and then by a LOAD: the later of both bars it. */
    private static void lagOfTwo(int lag, int loadLag) {
        ProcessorHouse house = house(core(1, lag, loadLag, 0), w(0, 0, 0, 0, 1), w(4, 1, 2, 0, 0), w(1, 3, 0, 1, 0));
        int due = Math.max(3, Math.max(2 + lag, 3 + loadLag));
        entry("lag " + lag + ", load lag " + loadLag, house, 3, due, 0, due - 3);
        ProcessorHouse same = house(core(1, lag, loadLag, 0), w(0, 1, 0, 0, 1), w(4, 1, 2, 0, 0), w(1, 3, 1, 1, 0));
        entry("only the LOAD, it is the latest", same, 3, 3 + loadLag, 0, loadLag);
        ProcessorHouse back = house(core(1, lag, loadLag, 0), w(4, 1, 2, 0, 0), w(0, 1, 0, 0, 1), w(1, 3, 1, 1, 0));
        entry("only the SET, it is the latest", back, 3, 3 + lag, 0, lag);
    }

    /** Cycles that pass before the next word are told as lost only when it has entered. */
    private static void lostOnlyWhenEntered() {
        ProcessorHouse house = house(core(8, 8, 0, 3), w(0, 0, 0, 0, 1), w(6, 0, 0, 0, 2), w(1, 1, 0, 0, 0),
                w(7, 0, 0, 0, 0));
        house.cycles(4, 9);
        states("the SET is 8 cycles old", house, 1, 0, 9, 1, 0, 0);
        house.cycles(4, 1);
        states("the BRANCH has entered", house, 1, 0, 10, 2, 0, 8);
        house.cycles(4, 3);
        states("the penalty bars", house, 1, 0, 13, 2, 0, 8);
        house.cycles(4, 1);
        states("the ADD has entered", house, 1, 0, 14, 3, 3, 8);
        house.cycles(4, 1);
        states("the STOP has entered", house, 1, 0, 15, 4, 3, 8);
        CHECK.answers("nothing is lost behind STOP", 8, () -> house.cycles(4, 2000));
        states("ended", house, 4, 1, 23, 4, 3, 8);
    }

    /** SET, then a BRANCH to itself without an end: each time the whole penalty. */
    private static void penaltyOfEachRound() {
        ProcessorHouse house = house(core(1, 0, 0, 8), w(0, 0, 0, 0, 1), w(6, 0, 0, 0, 1));
        house.cycles(4, 2);
        for (int round = 1; round <= 20; round++) {
            house.cycles(4, 8);
            states("before round " + round, house, round + 1, 0, 9 * round + 1, round + 1, 8 * (round - 1), 0);
            house.cycles(4, 1);
            states("round " + round, house, round + 1, 0, 9 * round + 2, round + 2, 8 * round, 0);
        }
    }

    private static void nothingBehindStop() {
        ProcessorHouse house = house(core(8, 0, 0, 0), w(7, 0, 0, 0, 0), w(0, 0, 0, 0, 5), w(7, 0, 0, 0, 0));
        for (int cycle = 1; cycle <= 8; cycle++) {
            CHECK.answers("cycle " + cycle, 1, () -> house.cycles(4, 1));
            states("STOP is inside", house, 0, 0, cycle, 1, 0, 0);
        }
        CHECK.answers("it leaves", 1, () -> house.cycles(4, 1));
        states("ended", house, 1, 1, 9, 1, 0, 0);
        CHECK.answers("ended", 0, () -> house.cycles(4, 1));
        CHECK.answers("ended", 0, () -> house.cycles(4, 2000));
        states("nothing more", house, 1, 1, 9, 1, 0, 0);
        CHECK.due("the word behind STOP is not done", 0, house.number(4, 0));
    }

    /** Asked for one cycle less than there are, as many, one more. */
    private static void cyclesUntilTheEnd() {
        for (int less = -1; less <= 1; less++) {
            ProcessorHouse house = house(core(3, 2, 2, 2), w(0, 0, 0, 0, 1), w(1, 1, 0, 0, 0), w(7, 0, 0, 0, 0));
            // SET in 1, ADD in 4, STOP in 5, which leaves in 8.
            int asked = 8 - less;
            CHECK.answers("cycles " + asked, Math.min(asked, 8), () -> house.cycles(4, asked));
            states("behind it", house, less > 0 ? 2 : 3, less > 0 ? 0 : 1, Math.min(asked, 8), 3, 0, 2);
        }
    }

    private static void agreesAtItsEdges() {
        ProcessorHouse house = house(core(3, 0, 0, 0), w(0, 0, 0, 0, 1), w(1, 1, 1, 0, 0), w(5, 0, 1, 1, 0),
                w(7, 0, 0, 0, 0));
        int run = house.run(2);
        CHECK.due("nothing done", 1, house.agrees(4, run) ? 1 : 0);
        house.cycles(4, 3);
        CHECK.due("words that entered do not count", 1, house.agrees(4, run) ? 1 : 0);
        CHECK.due("no step", 0, house.state(run, 0));
        house.cycles(4, 1);
        CHECK.due("one left", 1, house.agrees(4, run) ? 1 : 0);
        CHECK.due("one step", 1, house.state(run, 0));
        CHECK.due("asked again", 1, house.agrees(4, run) ? 1 : 0);
        CHECK.due("no step more", 1, house.state(run, 0));
        house.step(run, 1);
        CHECK.due("the run is one ahead", 0, house.agrees(4, run) ? 1 : 0);
        CHECK.due("it does not go back", 2, house.state(run, 0));
        CHECK.due("the sim does not go on", 4, house.state(4, 2));
        house.cycles(4, 1);
        CHECK.due("now as many", 1, house.agrees(4, run) ? 1 : 0);
        house.cycles(4, 2000);
        CHECK.due("the sim has ended", 1, house.agrees(4, run) ? 1 : 0);
        CHECK.due("the run, too", 1, house.state(run, 1));
        CHECK.due("steps", 4, house.state(run, 0));
        CHECK.due("both ended, asked again", 1, house.agrees(4, run) ? 1 : 0);
        int late = house.run(2);
        CHECK.due("from 0 to the end in one call", 1, house.agrees(4, late) ? 1 : 0);
        CHECK.due("steps", 4, house.state(late, 0));
        int ended = house.run(2);
        house.step(ended, 4);
        int fresh = house.sim(3, 2);
        CHECK.due("the run has ended, the sim not begun", 0, house.agrees(fresh, ended) ? 1 : 0);
        CHECK.due("no rule refused any of it", 0, house.rule());
    }

    /** A run of another program that ends before it has as many steps; one that has as many, and the same numbers. */
    private static void agreesWithOneThatEnded() {
        ProcessorHouse house = house(core(1, 0, 0, 0), w(3, 0, 0, 0, 0), w(7, 0, 0, 0, 0));
        house.cycles(4, 2000);
        int brief = house.program(1);
        house.word(brief, 7, 0, 0, 0, 0);
        int run = house.run(brief);
        CHECK.due("ended before", 0, house.agrees(4, run) ? 1 : 0);
        CHECK.due("its one step", 1, house.state(run, 0));
        int like = house.program(1);
        house.word(like, 3, 0, 0, 0, 0);
        house.word(like, 7, 0, 0, 0, 0);
        int other = house.run(like);
        CHECK.due("all the same but the program", 0, house.agrees(4, other) ? 1 : 0);
        CHECK.due("its two steps", 2, house.state(other, 0));
        int far = house.machine(8, 4);
        int abroad = house.program(far);
        house.word(abroad, 3, 0, 0, 0, 0);
        int stranger = house.run(abroad);
        CHECK.due("a program of another machine", 0, house.agrees(4, stranger) ? 1 : 0);
        CHECK.due("its two steps", 2, house.state(stranger, 0));
        CHECK.due("no rule refused any of it", 0, house.rule());
    }

    /** Words that change nothing: all numbers are the same, and yet as many steps have to be done. */
    private static void agreesByTheStepsAlone() {
        ProcessorHouse house = house(core(1, 0, 0, 0), w(3, 0, 0, 0, 0), w(3, 0, 0, 0, 0), w(7, 0, 0, 0, 0));
        int run = house.run(2);
        house.step(run, 1);
        CHECK.due("one step ahead", 0, house.agrees(4, run) ? 1 : 0);
        house.cycles(4, 2);
        CHECK.due("one left", 1, house.agrees(4, run) ? 1 : 0);
        house.step(run, 2);
        CHECK.due("ended, one left", 0, house.agrees(4, run) ? 1 : 0);
        house.cycles(4, 1);
        CHECK.due("ended, two left", 0, house.agrees(4, run) ? 1 : 0);
        house.cycles(4, 1);
        CHECK.due("both ended", 1, house.agrees(4, run) ? 1 : 0);
    }
}
