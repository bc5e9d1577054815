import java.io.IOException;
import java.nio.file.Files;
import java.nio.file.Path;
import java.util.List;

/** The example in README.md answers what it says: each of its lines stands there just as this test makes it. */
public final class ReadmeTest {
    private static final String FILE = "README.md";
    private static final String OPENING = "```java";
    private static final String CLOSING = "```";

    private final Check check = new Check();
    private final List<String> example;
    private int at;

    private ReadmeTest(List<String> example) {
        this.example = example;
    }

    public static void main(String[] args) throws IOException {
        List<String> lines = Files.readAllLines(Path.of(FILE));
        int from = lines.indexOf(OPENING) + 1;
        int length = lines.subList(from, lines.size()).indexOf(CLOSING);
        new ReadmeTest(lines.subList(from, from + length)).compare();
    }

    private void compare() {
        line("ProcessorHouse house = new ProcessorHouse();");
        ProcessorHouse house = new ProcessorHouse();
        line("int machine = house.machine(8, 4);");
        int machine = house.machine(8, 4);
        line("int program = house.program(machine);");
        int program = house.program(machine);
        line("house.word(program, 0, 1, 0, 0, 7);");
        house.word(program, 0, 1, 0, 0, 7);
        line("house.word(program, 5, 0, 0, 1, 0);");
        house.word(program, 5, 0, 0, 1, 0);
        line("house.word(program, 7, 0, 0, 0, 0);");
        house.word(program, 7, 0, 0, 0, 0);
        line("int run = house.run(program);");
        int run = house.run(program);
        line("house.step(run, 2000);", house.step(run, 2000));
        line("house.number(run, 4);", house.number(run, 4));
        line("int core = house.core(machine, 3, 1, 2, 2);");
        int core = house.core(machine, 3, 1, 2, 2);
        line("int sim = house.sim(core, program);");
        int sim = house.sim(core, program);
        line("house.cycles(sim, 2000);", house.cycles(sim, 2000));
        line("house.agrees(sim, run);", house.agrees(sim, run));
        line("int pair = house.pair(program, program, 1);");
        int pair = house.pair(program, program, 1);
        line("house.explore(pair, 1);", house.explore(pair, 1));
        line("house.end(pair, 0, 8);", house.end(pair, 0, 8));
        if (!nextLine().isEmpty()) {
            check.tell("the example goes on behind what the test makes");
        }
        check.done();
    }

    private void line(String call) {
        String written = nextLine();
        if (!written.startsWith(call)) {
            check.tell("the example has '" + written + "' where the test makes " + call);
        }
    }

    private void line(String call, Object answer) {
        String written = nextLine();
        String want = " // " + answer;
        if (!written.startsWith(call) || !(written.endsWith(want) || written.contains(want + ","))) {
            check.tell("the example has '" + written + "' where " + call + " answers " + answer);
        }
    }

    /** The next line of the example that is not empty, or an empty one behind the last. */
    private String nextLine() {
        while (at < example.size()) {
            String written = example.get(at);
            at++;
            if (!written.isBlank()) {
                return written;
            }
        }
        return "";
    }
}
