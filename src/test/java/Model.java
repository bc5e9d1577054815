import java.util.ArrayDeque;
import java.util.ArrayList;
import java.util.Arrays;
import java.util.Collections;
import java.util.Comparator;
import java.util.HashSet;
import java.util.List;
import java.util.Set;

/**
 * A second house, written straight from the document's terms and slow: each answer is reckoned anew from what was
 * made and how far it has gone. It answers a number, or the name of the exception that is due.
 */
final class Model {
    private static final String RULED = "IllegalStateException";
    private static final String ARGUMENT = "IllegalArgumentException";

    /** What came by a handle; parts are handles, except a core's numbers and a pair's kind. */
    private static final class Entry {
        int kind;
        boolean lives = true;
        int[] parts;
        int[] numbers = new int[0];
        List<int[]> words = new ArrayList<>();
        int gone;
        List<List<Long>> ends;
        int states;
    }

    /** Registers and memory, the next word, and whether it has ended. */
    private static final class Place {
        long[] registers = new long[4];
        long[] memory;
        int next;
        int steps;
        boolean ended;
    }

    private final List<Entry> entries = new ArrayList<>();
    private int rule;

    private Object refuse(int number) {
        rule = number;
        return RULED;
    }

    private Entry at(int handle) {
        if (!in(handle, 1, entries.size())) {
            return null;
        }
        Entry entry = entries.get(handle - 1);
        return entry.lives ? entry : null;
    }

    /** Rules 1 and 2; 0 when neither refuses. */
    private int ruleOf(int handle, int... kinds) {
        if (at(handle) == null) {
            return 1;
        }
        int kind = at(handle).kind;
        return Arrays.stream(kinds).anyMatch(k -> k == kind) ? 0 : 2;
    }

    private boolean used(int handle) {
        return entries.stream().anyMatch(e -> e.lives && Arrays.stream(e.parts).anyMatch(p -> p == handle));
    }

    private Object come(int kind, int[] numbers, int... parts) {
        if (entries.size() == 60) {
            return refuse(6);
        }
        Entry entry = new Entry();
        entry.kind = kind;
        entry.numbers = numbers;
        entry.parts = parts;
        entries.add(entry);
        return (long) entries.size();
    }

    private static boolean in(int number, int least, int most) {
        return least <= number && number <= most;
    }

    Object machine(int bits, int places) {
        if (!in(bits, 1, 32) || !in(places, 1, 8)) {
            return ARGUMENT;
        }
        return come(1, new int[] {bits, places});
    }

    Object program(int machine) {
        int refused = ruleOf(machine, 1);
        return refused != 0 ? refuse(refused) : come(2, new int[0], machine);
    }

    Object word(int program, int op, int d, int a, int b, int n) {
        int refused = ruleOf(program, 2);
        if (refused != 0) {
            return refuse(refused);
        }
        if (used(program)) {
            return refuse(3);
        }
        if (!in(op, 0, 7) || !in(d, 0, 3) || !in(a, 0, 3) || !in(b, 0, 3)) {
            return ARGUMENT;
        }
        if (at(program).words.size() == 24) {
            return "UnsupportedOperationException";
        }
        at(program).words.add(new int[] {op, d, a, b, n});
        return (long) at(program).words.size();
    }

    Object run(int program) {
        int refused = ruleOf(program, 2);
        if (refused != 0) {
            return refuse(refused);
        }
        return at(program).words.isEmpty() ? refuse(5) : come(3, new int[0], program);
    }

    Object step(int run, int n) {
        int refused = ruleOf(run, 3);
        if (refused != 0) {
            return refuse(refused);
        }
        if (!in(n, 1, 2000)) {
            return ARGUMENT;
        }
        int before = at(run).gone;
        at(run).gone = walked(at(run).parts[0], before + n).steps;
        return (long) at(run).gone - before;
    }

    private static boolean isCore(int length, int lag, int loadLag, int penalty) {
        return in(length, 1, 8) && in(lag, 0, 8) && in(loadLag, 0, 8) && in(penalty, 0, 8);
    }

    Object core(int machine, int length, int lag, int loadLag, int penalty) {
        int refused = ruleOf(machine, 1);
        if (refused != 0) {
            return refuse(refused);
        }
        if (!isCore(length, lag, loadLag, penalty)) {
            return ARGUMENT;
        }
        return come(4, new int[] {length, lag, loadLag, penalty}, machine);
    }

    Object change(int core, int length, int lag, int loadLag, int penalty) {
        int refused = ruleOf(core, 4);
        if (refused != 0) {
            return refuse(refused);
        }
        if (used(core)) {
            return refuse(3);
        }
        if (!isCore(length, lag, loadLag, penalty)) {
            return ARGUMENT;
        }
        int before = at(core).numbers[0];
        at(core).numbers = new int[] {length, lag, loadLag, penalty};
        return (long) before;
    }

    Object sim(int core, int program) {
        int refused = ruleOf(core, 4);
        refused = refused != 0 ? refused : ruleOf(program, 2);
        if (refused != 0) {
            return refuse(refused);
        }
        if (at(core).parts[0] != at(program).parts[0]) {
            return refuse(4);
        }
        return at(program).words.isEmpty() ? refuse(5) : come(5, new int[0], program, core);
    }

    Object cycles(int sim, int n) {
        int refused = ruleOf(sim, 5);
        if (refused != 0) {
            return refuse(refused);
        }
        if (!in(n, 1, 2000)) {
            return ARGUMENT;
        }
        Entry entry = at(sim);
        int before = entry.gone;
        for (int k = 0; k < n && simState(entry, entry.gone)[1] == 0; k++) {
            // Cycles are gone through one by one only near an end.
            int jump = simState(entry, before + n)[1] == 0 ? n - k : 1;
            entry.gone += jump;
            k += jump - 1;
        }
        return (long) entry.gone - before;
    }

    /** What a run of the program has come to behind so many steps, or behind its end. */
    private Place walked(int program, int steps) {
        Place place = new Place();
        place.memory = new long[at(at(program).parts[0]).numbers[1]];
        while (place.steps < steps && !place.ended) {
            walk(program, place);
        }
        return place;
    }

    private void walk(int program, Place p) {
        int[] w = at(program).words.get(p.next);
        int size = at(program).words.size();
        int go = (p.next + 1) % size;
        long m = 1L << at(at(program).parts[0]).numbers[0];
        long a = p.registers[w[2]];
        long b = p.registers[w[3]];
        switch (w[0]) {
            case 0 -> p.registers[w[1]] = Math.floorMod((long) w[4], m);
            case 1 -> p.registers[w[1]] = Math.floorMod(a + b, m);
            case 2 -> p.registers[w[1]] = Math.floorMod(a - b, m);
            case 3 -> p.registers[w[1]] = a & b;
            case 4 -> p.registers[w[1]] = p.memory[(int) (a % p.memory.length)];
            case 5 -> p.memory[(int) (a % p.memory.length)] = b;
            case 6 -> go = a != 0 ? Math.floorMod(w[4], size) : go;
            default -> p.ended = true;
        }
        p.next = go;
        p.steps++;
    }

    private static int[] reads(int[] w) {
        return switch (w[0]) {
            case 1, 2, 3, 5 -> new int[] {w[2], w[3]};
            case 4, 6 -> new int[] {w[2]};
            default -> new int[0];
        };
    }

    /** Left, ended, cycles, entered, lost by the penalty, lost by lags, in so many cycles. */
    private int[] simState(Entry sim, int cycles) {
        int[] core = at(sim.parts[1]).numbers;
        List<int[]> done = new ArrayList<>();
        List<Boolean> went = new ArrayList<>();
        List<Integer> entry = new ArrayList<>();
        Place place = walked(sim.parts[0], 0);
        int[] state = {0, 0, cycles, 0, 0, 0};
        while (!place.ended) {
            int[] w = at(sim.parts[0]).words.get(place.next);
            int cycle = 1;
            while (!mayEnter(cycle, w, done, went, entry, core)) {
                cycle = cycle == 1 ? entry.get(entry.size() - 1) + 1 : cycle + 1;
            }
            if (cycle > cycles) {
                break;
            }
            int k = done.size();
            for (int c = k == 0 ? cycle : entry.get(k - 1) + 1; c < cycle; c++) {
                state[went.get(k - 1) && c - entry.get(k - 1) <= core[3] ? 4 : 5]++;
            }
            done.add(w);
            went.add(w[0] == 6 && place.registers[w[2]] != 0);
            entry.add(cycle);
            state[3]++;
            state[0] += cycle + core[0] <= cycles ? 1 : 0;
            state[1] = w[0] == 7 && cycle + core[0] <= cycles ? 1 : 0;
            walk(sim.parts[0], place);
        }
        return state;
    }

    private static boolean mayEnter(int cycle, int[] w, List<int[]> done, List<Boolean> went, List<Integer> entry,
            int[] core) {
        int k = done.size();
        if (k == 0) {
            return cycle == 1;
        }
        if (cycle <= entry.get(k - 1) || (went.get(k - 1) && cycle - entry.get(k - 1) <= core[3])) {
            return false;
        }
        for (int register : reads(w)) {
            for (int j = k - 1; j >= 0; j--) {
                int[] before = done.get(j);
                if (before[0] <= 4 && before[1] == register) {
                    if (cycle - entry.get(j) <= core[before[0] == 4 ? 2 : 1]) {
                        return false;
                    }
                    break;
                }
            }
        }
        return true;
    }

    Object state(int handle, int what) {
        int refused = ruleOf(handle, 3, 5);
        if (refused != 0) {
            return refuse(refused);
        }
        Entry entry = at(handle);
        if (!in(what, 0, entry.kind == 3 ? 1 : 5)) {
            return ARGUMENT;
        }
        if (entry.kind == 5) {
            return (long) simState(entry, entry.gone)[what];
        }
        return what == 0 ? (long) entry.gone : walked(entry.parts[0], entry.gone).ended ? 1L : 0L;
    }

    private Place shown(Entry entry) {
        return walked(entry.parts[0], entry.kind == 3 ? entry.gone : simState(entry, entry.gone)[0]);
    }

    Object number(int handle, int what) {
        int refused = ruleOf(handle, 3, 5);
        if (refused != 0) {
            return refuse(refused);
        }
        Place place = shown(at(handle));
        if (!in(what, 0, 3 + place.memory.length)) {
            return ARGUMENT;
        }
        return what < 4 ? place.registers[what] : place.memory[what - 4];
    }

    Object agrees(int sim, int run) {
        int refused = ruleOf(sim, 5);
        refused = refused != 0 ? refused : ruleOf(run, 3);
        if (refused != 0) {
            return refuse(refused);
        }
        Entry some = at(sim);
        Entry other = at(run);
        int left = simState(some, some.gone)[0];
        other.gone = walked(other.parts[0], Math.max(left, other.gone)).steps;
        Place one = shown(some);
        Place two = shown(other);
        boolean same = some.parts[0] == other.parts[0] && left == other.gone
                && Arrays.equals(one.registers, two.registers) && Arrays.equals(one.memory, two.memory);
        return same ? 1L : 0L;
    }

    Object pair(int one, int two, int kind) {
        int refused = ruleOf(one, 2);
        refused = refused != 0 ? refused : ruleOf(two, 2);
        if (refused != 0) {
            return refuse(refused);
        }
        if (at(one).parts[0] != at(two).parts[0]) {
            return refuse(4);
        }
        if (at(one).words.isEmpty() || at(two).words.isEmpty()) {
            return refuse(5);
        }
        return in(kind, 0, 1) ? come(6, new int[] {kind}, one, two) : ARGUMENT;
    }

    Object explore(int pair, int what) {
        int refused = ruleOf(pair, 6);
        if (refused != 0) {
            return refuse(refused);
        }
        if (!in(what, 0, 2)) {
            return ARGUMENT;
        }
        goThrough(at(pair));
        if (at(pair).states > 2000) {
            return refuse(7);
        }
        return what == 0 ? (long) at(pair).states : what == 1 ? (long) at(pair).ends.size() : 0L;
    }

    Object end(int pair, int k, int what) {
        int refused = ruleOf(pair, 6);
        if (refused != 0) {
            return refuse(refused);
        }
        if (!in(what, 0, 7 + at(at(at(pair).parts[0]).parts[0]).numbers[1])) {
            return ARGUMENT;
        }
        goThrough(at(pair));
        if (at(pair).states > 2000) {
            return refuse(7);
        }
        return in(k, 0, at(pair).ends.size() - 1) ? at(pair).ends.get(k).get(what) : "IndexOutOfBoundsException";
    }

    /** A state: of each program its next word, registers and waiting stores (place, number), then memory. */
    private record Both(List<Integer> next, List<List<Long>> registers, List<List<List<Long>>> rows,
            List<Long> memory) {
        Both with(int side, int newNext, List<Long> own, List<List<Long>> row, List<Long> newMemory) {
            return new Both(put(next, side, newNext), put(registers, side, own), put(rows, side, row), newMemory);
        }
    }

    private static <T> List<T> put(List<T> list, int index, T element) {
        List<T> copy = new ArrayList<>(list);
        copy.set(index, element);
        return copy;
    }

    private void goThrough(Entry pair) {
        if (pair.ends != null) {
            return;
        }
        int places = at(at(pair.parts[0]).parts[0]).numbers[1];
        List<Long> none = List.of(0L, 0L, 0L, 0L);
        Both first = new Both(List.of(0, 0), List.of(none, none), List.of(List.of(), List.of()),
                Collections.nCopies(places, 0L));
        Set<Both> seen = new HashSet<>(Set.of(first));
        ArrayDeque<Both> open = new ArrayDeque<>(seen);
        List<List<Long>> ends = new ArrayList<>();
        while (!open.isEmpty() && seen.size() <= 2000) {
            Both now = open.pop();
            if (now.next.equals(List.of(-1, -1)) && now.rows.equals(List.of(List.of(), List.of()))) {
                List<Long> end = new ArrayList<>(now.registers.get(0));
                end.addAll(now.registers.get(1));
                end.addAll(now.memory);
                ends.add(end);
            }
            for (Both next : steps(pair, now)) {
                if (seen.add(next)) {
                    open.add(next);
                }
            }
        }
        ends.sort(Model::inOrder);
        pair.ends = ends;
        pair.states = seen.size();
    }

    private static int inOrder(List<Long> one, List<Long> two) {
        for (int k = 0; k < one.size(); k++) {
            int order = Comparator.<Long>naturalOrder().compare(one.get(k), two.get(k));
            if (order != 0) {
                return order;
            }
        }
        return 0;
    }

    private List<Both> steps(Entry pair, Both now) {
        List<Both> steps = new ArrayList<>();
        for (int side = 0; side < 2; side++) {
            List<List<Long>> row = now.rows.get(side);
            if (!row.isEmpty()) {
                List<Long> memory = put(now.memory, (int) (long) row.get(0).get(0), row.get(0).get(1));
                steps.add(now.with(side, now.next.get(side), now.registers.get(side),
                        new ArrayList<>(row.subList(1, row.size())), memory));
            }
            if (now.next.get(side) >= 0) {
                Both next = word(pair, now, side);
                if (next != null) {
                    steps.add(next);
                }
            }
        }
        return steps;
    }

    private Both word(Entry pair, Both now, int side) {
        int program = pair.parts[side];
        int size = at(program).words.size();
        int[] w = at(program).words.get(now.next.get(side));
        long m = 1L << at(at(program).parts[0]).numbers[0];
        List<Long> own = now.registers.get(side);
        List<List<Long>> row = now.rows.get(side);
        List<Long> memory = now.memory;
        int go = now.next.get(side) + 1 < size ? now.next.get(side) + 1 : -1;
        long a = own.get(w[2]);
        long b = own.get(w[3]);
        long place = a % memory.size();
        switch (w[0]) {
            case 0 -> own = put(own, w[1], Math.floorMod((long) w[4], m));
            case 1 -> own = put(own, w[1], Math.floorMod(a + b, m));
            case 2 -> own = put(own, w[1], Math.floorMod(a - b, m));
            case 3 -> own = put(own, w[1], a & b);
            case 4 -> {
                long loaded = memory.get((int) place);
                for (List<Long> store : row) {
                    loaded = store.get(0) == place ? store.get(1) : loaded;
                }
                own = put(own, w[1], loaded);
            }
            case 5 -> {
                if (pair.numbers[0] == 0) {
                    memory = put(memory, (int) place, b);
                } else if (row.size() == 2) {
                    return null;
                } else {
                    row = new ArrayList<>(row);
                    row.add(List.of(place, b));
                }
            }
            case 6 -> go = a != 0 ? Math.floorMod(w[4], size) : go;
            default -> go = -1;
        }
        return now.with(side, go, own, row, memory);
    }

    Object drop(int handle) {
        if (at(handle) == null) {
            return refuse(1);
        }
        if (used(handle)) {
            return refuse(3);
        }
        long kind = at(handle).kind;
        at(handle).lives = false;
        return kind;
    }

    Object kind(int handle) {
        return at(handle) == null ? 0L : (long) at(handle).kind;
    }

    Object rule() {
        return (long) rule;
    }

    Object count(int what) {
        if (!in(what, 0, 7)) {
            return -1L;
        }
        return what == 0 ? (long) entries.size()
                : entries.stream().filter(e -> e.lives && (what == 1 || e.kind == what - 1)).count();
    }
}
