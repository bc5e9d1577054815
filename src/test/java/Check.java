import java.util.ArrayList;
import java.util.List;

/** Compares answers with those that are due, prints the others, and ends the test with 1 if there was one. */
final class Check {
    interface Call {
        long answer();
    }

    private int wrong;

    void due(String call, long want, long got) {
        if (got != want) {
            tell(call + " answered " + got + ", due is " + want);
        }
    }

    void answers(String call, long want, Call made) {
        try {
            due(call, want, made.answer());
        } catch (RuntimeException e) {
            tell(call + " threw " + e.getClass().getName() + ", due is " + want);
        }
    }

    /** The call throws just this, and neither rule() nor anything else changes. */
    void thrown(ProcessorHouse house, Class<? extends RuntimeException> want, String call, Call made) {
        int rule = house.rule();
        refusal(house, want, call, made);
        due(call + ", then rule()", rule, house.rule());
    }

    /** A rule refuses the call, rule() tells which, and nothing else changes. */
    void refused(ProcessorHouse house, int rule, String call, Call made) {
        refusal(house, IllegalStateException.class, call, made);
        due(call + ", then rule()", rule, house.rule());
    }

    private void refusal(ProcessorHouse house, Class<? extends RuntimeException> want, String call, Call made) {
        List<Long> before = all(house);
        try {
            tell(call + " answered " + made.answer() + ", due is " + want.getName());
        } catch (RuntimeException e) {
            if (e.getClass() != want) {
                tell(call + " threw " + e.getClass().getName() + ", due is " + want.getName());
            }
        }
        if (!before.equals(all(house))) {
            tell(call + " was refused and changed something");
        }
    }

    /** All that can be asked for without a refusal by a rule. */
    private static List<Long> all(ProcessorHouse house) {
        List<Long> all = new ArrayList<>();
        for (int what = 0; what <= 7; what++) {
            all.add((long) house.count(what));
        }
        for (int handle = 1; handle <= 60; handle++) {
            int kind = house.kind(handle);
            all.add((long) kind);
            if (kind == 3 || kind == 5) {
                addNumbers(house, handle, kind, all);
            }
        }
        return all;
    }

    private static void addNumbers(ProcessorHouse house, int handle, int kind, List<Long> all) {
        for (int what = 0; what <= (kind == 3 ? 1 : 5); what++) {
            all.add((long) house.state(handle, what));
        }
        for (int what = 0; what < 12; what++) {
            try {
                all.add(house.number(handle, what));
            } catch (IllegalArgumentException e) {
                return;
            }
        }
    }

    void tell(String text) {
        wrong++;
        if (wrong <= 50) {
            System.out.println(text);
        }
    }

    void done() {
        System.out.println(wrong == 0 ? "all answers are as due" : wrong + " answers are not as due");
        if (wrong != 0) {
            System.exit(1);
        }
    }
}
